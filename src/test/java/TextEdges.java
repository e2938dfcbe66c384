/** Promises 1 to 6: the sentences about the TAPE and the texts that name a boundary. */
final class TextEdges {
    private TextEdges() {
    }

    static void run() {
        newObject();
        tape();
        calls();
        faults();
        counts();
        things();
        goers();
        trains();
        lines();
        reading();
        firstWrongByte();
        laws();
        lawReading();
    }

    /** The text is right. */
    private static void right(SinglesPast x, String text) {
        int before = x.count(3);
        Check.tape(x, text);
        Check.is(text, x.station(), before + 1);
        Check.is("fault of " + text, x.fault(), -1);
    }

    /** The text, without its ^, is wrong just where that stands. */
    private static void wrong(SinglesPast x, String marked) {
        Check.tape(x, marked.replace("^", ""));
        Check.noArgument(marked, x::station);
        Check.is("fault of " + marked, x.fault(), marked.indexOf('^'));
    }

    private static void rightLaw(SinglesPast x, String text, int lines) {
        Check.tape(x, text);
        Check.is(text, x.law(), lines);
        Check.is("fault of " + text, x.fault(), -1);
    }

    private static void wrongLaw(SinglesPast x, String marked) {
        Check.tape(x, marked.replace("^", ""));
        Check.noArgument(marked, x::law);
        Check.is("fault of " + marked, x.fault(), marked.indexOf('^'));
    }

    private static String row(java.util.function.IntUnaryOperator answer, int whats) {
        StringBuilder s = new StringBuilder();
        for (int what = 0; what < whats; what++) {
            s.append(answer.applyAsInt(what)).append(' ');
        }
        return s.toString();
    }

    private static String times(String line, int n) {
        return (line + ";").repeat(n - 1) + line;
    }

    private static void newObject() {
        Edge.of(1, "A station without TRAINS.", () -> {
            SinglesPast x = new SinglesPast();
            Check.is("trains", x.count(2), 0);
            Check.is("empty", x.empty(), 0);
            Check.is("never", x.never(), 0xFFFF);
            Check.is("colours", x.colours(-1), 0);
            Check.each(IndexOutOfBoundsException.class, t -> x.train(t, 0), -1, 0);
        });
        Edge.of(1, "DAY 0 to 9999 (0 at first)", () -> {
            SinglesPast x = new SinglesPast();
            Check.is("day", x.count(5), 0);
            x.days(1);
            Check.is("a day later", x.count(5), 1);
        });
    }

    private static void tape() {
        Edge.of(2, "Twenty bytes come behind the TAPE, of each number the highest first: how many it has", () -> {
            SinglesPast x = new SinglesPast();
            Check.is("the first twenty", x.feed(0x64617920, 0x37312020, 0x20202020, 0x20202020, 0x20202020), 20);
            Check.is("twenty behind them", x.feed(0x3b747261, 0x696e2073, 0x65617473, 0x20362073, 0x746f7073), 40);
            Check.is("and twenty more", x.feed(0x20616270, 0x20202020, 0x20202020, 0x20202020, 0x20202020), 60);
            x.station();
            Check.is("day 71", x.count(5), 71);
            Check.is("seats 6", x.train(0, 1), 6);
            Check.is("stops abp", x.train(0, 0), 0x8003);
        });
        Edge.of(2, "NONE, and none come, if it would have more than 400", () -> {
            SinglesPast x = new SinglesPast();
            Check.tape(x, "day 71" + " ".repeat(374));
            Check.is("380 and 20 are 400", x.feed(0x20202020, 0x20202020, 0x20202020, 0x20202020, 0x20202020), 400);
            Check.is("400 and 20", x.feed(0, 0, 0, 0, 0), -1);
            Check.is("still 400", x.end(401), false);
            Check.is("the last byte is a blank yet", x.station(), 1);
            Check.is("day", x.count(5), 71);
            right(x, " ".repeat(390) + "thing at 3");
            right(x, " ".repeat(387) + "thing at 3 so");
            right(x, " ".repeat(378) + "train seats 1 stops bp");
            wrong(x, " ".repeat(397) + "day^");
            Check.tape(x, "day 72" + " ".repeat(375));
            Check.is("381 and 20", x.feed(0, 0, 0, 0, 0), -1);
            Check.is("no 382", x.end(382), false);
            Check.is("still 381", x.station(), 5);
            Check.is("day", x.count(5), 72);
        });
        Edge.of(3, "The TAPE has its first n bytes alone: true", () -> {
            SinglesPast x = new SinglesPast();
            Check.is("0 of an empty one", x.end(0), true);
            Check.tape(x, "day 71");
            Check.is("all of it", x.end(6), true);
            Check.is("but the last one", x.end(5), true);
            x.station();
            Check.is("day", x.count(5), 7);
            Check.tape(x, "thing at 3 sofa");
            Check.is("a word of it", x.end(13), true);
            x.station();
            Check.is("so", x.thing(0, 1), 1);
            Check.tape(x, "train seats 1 stops abc");
            Check.is("letters of it", x.end(22), true);
            x.station();
            Check.is("ab", x.train(0, 0), 3);
            Check.tape(x, "dawn");
            Check.is("none of it", x.end(0), true);
            Check.is("an empty text", x.station(), 4);
        });
        Edge.of(3, "false, and nothing happens, if it has fewer", () -> {
            SinglesPast x = new SinglesPast();
            Check.is("1 of an empty one", x.end(1), false);
            Check.tape(x, "day 71");
            Check.is("7 of 6", x.end(7), false);
            Check.is("the most", x.end(Integer.MAX_VALUE), false);
            x.station();
            Check.is("all six were there yet", x.count(5), 71);
            Check.is("1 of one used up", x.end(1), false);
        });
        Edge.of(3, "or n is below 0", () -> {
            SinglesPast x = new SinglesPast();
            Check.tape(x, "day 71");
            Check.is("-1", x.end(-1), false);
            Check.is("the least", x.end(Integer.MIN_VALUE), false);
            x.station();
            Check.is("all six were there yet", x.count(5), 71);
        });
    }

    private static SinglesPast twelve() {
        SinglesPast x = Check.with("thing at 1;goer to 1 money 50;train seats 1 stops b");
        for (int i = 2; i <= 12; i++) {
            Check.tape(x, "");
            Check.is("text " + i, x.station(), i);
        }
        return x;
    }

    private static void calls() {
        Edge.of(4, "Uses the TAPE up: a text of THE STATION: how many there are.", () -> {
            SinglesPast x = new SinglesPast();
            Check.tape(x, "day 1");
            Check.is("the first", x.station(), 1);
            Check.is("used up", x.end(1), false);
            Check.is("the second, with nothing on the tape", x.station(), 2);
            Check.tape(x, "day 1 day");
            Check.noArgument("a wrong one", x::station);
            Check.is("used up by a wrong one", x.end(1), false);
            Check.is("a wrong one is not there", x.count(3), 2);
            Check.is("the third", x.station(), 3);
        });
        Edge.of(4, "IllegalArgumentException: it is wrong", () -> {
            SinglesPast x = Check.with("thing at 1;goer to 1 money 50;train seats 1 stops b");
            x.pay(0, 1);
            Seen.unchanged(x, IllegalArgumentException.class, () -> {
                Check.tape(x, "thing at 2;day 7;day");
                x.station();
            });
            Check.is("its fault", x.fault(), 20);
        });
        Edge.of(4, "UnsupportedOperationException: there are 12.", () -> {
            SinglesPast x = twelve();
            x.pay(0, 1);
            Seen.unchanged(x, UnsupportedOperationException.class, () -> {
                Check.tape(x, "thing at 2;day 7");
                x.station();
            });
            Check.is("used up", x.end(1), false);
            Seen.unchanged(x, UnsupportedOperationException.class, x::station);
            Check.is("its act can be undone yet", x.undo(), true);
        });
        Edge.of(4, "Of several exceptions the one told first is thrown", () -> {
            SinglesPast x = twelve();
            wrong(x, "day 7;^dawn");
            Check.is("used up", x.end(1), false);
        });
        Edge.of(4, "a call that throws changes nothing but the TAPE, where it is used up", () -> {
            SinglesPast x = Check.with("goer to 1 money 50;train seats 1 stops b", "cost 3");
            Check.tape(x, "day 7");
            Seen.unchanged(x, IllegalStateException.class, () -> x.recall(0));
            Check.is("a call that does not read it leaves it", x.end(6), false);
            Check.is("all of it", x.station(), 2);
            Check.is("day", x.count(5), 7);
            Check.tape(x, "day");
            Seen.unchanged(x, IllegalArgumentException.class, x::station);
            Check.is("station uses it up", x.end(1), false);
            Check.tape(x, "cost");
            Seen.unchanged(x, IllegalArgumentException.class, x::law);
            Check.is("law uses it up", x.end(1), false);
            Check.tape(x, "rows");
            Seen.unchanged(x, IllegalArgumentException.class, x::send);
            Check.is("send uses it up", x.end(1), false);
            Check.tape(x, "rows");
            Seen.unchanged(x, IllegalArgumentException.class, () -> x.who(true));
            Check.is("who uses it up", x.end(1), false);
            Check.tape(x, "rows");
            Seen.unchanged(x, IllegalArgumentException.class, x::look);
            Check.is("look uses it up", x.end(1), false);
        });
        Edge.of(5, "Uses the TAPE up: THE LAW: how many LINES.", () -> {
            SinglesPast x = new SinglesPast();
            Check.is("an empty one", x.law(), 0);
            Check.tape(x, "bar");
            Check.is("one", x.law(), 1);
            Check.is("used up", x.end(1), false);
            Check.tape(x, times("cost 1", 12));
            Check.is("twelve", x.law(), 12);
        });
        Edge.of(5, "IllegalArgumentException: the text is wrong.", () -> {
            SinglesPast x = Check.with("goer to 1 money 50;train seats 1 stops b", "cost 3;fear 4");
            x.pay(0, 1);
            Seen.unchanged(x, IllegalArgumentException.class, () -> {
                Check.tape(x, "cost 30;fear 40;bar;baron");
                x.law();
            });
            Check.is("its fault", x.fault(), 20);
            Check.is("used up", x.end(1), false);
            Check.is("its act can be undone yet", x.undo(), true);
        });
    }

    private static void faults() {
        Edge.of(6, "The first wrong byte of the latest text that was read", () -> {
            SinglesPast x = new SinglesPast();
            wrong(x, "^dawn");
            wrongLaw(x, "bar if ^dawn");
            wrong(x, "day ^dawn");
            Check.noArgument("pick is no text", () -> x.pick(0, true));
            Check.tape(x, "rows");
            Check.noArgument("rows are no text", x::send);
            Check.is("of the latest text", x.fault(), 4);
        });
        Edge.of(6, "NONE without one, and ahead of any.", () -> {
            SinglesPast x = new SinglesPast();
            Check.is("ahead of any", x.fault(), -1);
            Check.tape(x, "dawn");
            Check.is("not read yet", x.fault(), -1);
            Check.noArgument("read", x::station);
            Check.is("wrong", x.fault(), 0);
            Check.tape(x, "day 1");
            Check.is("the wrong one is the latest that was read", x.fault(), 0);
            x.station();
            Check.is("a right one", x.fault(), -1);
            wrong(x, "^dawn");
            Check.law(x, "bar");
            Check.is("a right law", x.fault(), -1);
            SinglesPast y = twelve();
            wrong(y, "day 7;^dawn");
            Check.tape(y, "day 7");
            Check.fails("a right text that is one too many", UnsupportedOperationException.class, y::station);
            Check.is("it was read, and is right", y.fault(), -1);
        });
    }

    private static void counts() {
        Edge.of(4, "THE STATION is told in texts (at most 12, one behind another)", () -> {
            SinglesPast x = new SinglesPast();
            for (int i = 1; i <= 8; i++) {
                Check.tape(x, "thing at " + i);
                Check.is("text " + i, x.station(), i);
                Check.is("things", x.count(0), i);
                Check.is("numbered on", x.thing(i - 1, 0), i);
            }
            for (int i = 9; i <= 12; i++) {
                Check.tape(x, " ");
                Check.is("text " + i, x.station(), i);
            }
            Check.fails("text 13", UnsupportedOperationException.class, x::station);
            Check.is("texts", x.count(3), 12);
            SinglesPast y = new SinglesPast();
            for (int i = 1; i <= 11; i++) {
                right(y, "");
            }
            right(y, "thing at 7;goer to 7 money 20;train seats 1 stops h");
            Check.is("the twelfth tells of a thing", y.thing(0, 0), 7);
            Check.is("and of a goer", y.goer(0, 0), 7);
            Check.is("and of a train", y.train(0, 0), 1 << 7);
        });
        Edge.of(4, "LINE { ; LINE }, at most 14", () -> {
            right(new SinglesPast(), "day 1");
            right(new SinglesPast(), times("day 1", 14));
            wrong(new SinglesPast(), times("day 1", 14) + "; ^day 1");
            wrong(new SinglesPast(), times("day 1", 14) + "^day 1");
            SinglesPast x = new SinglesPast();
            right(x, times("day 1", 14));
            right(x, times("day 1", 14));
            wrong(x, "^;");
            wrong(x, "day 1;^;day 1");
            wrong(x, "day 1;^");
            wrong(x, "day 1; ^");
        });
        Edge.of(4, "THINGS (at most 8, numbered from 0 on)", () -> {
            SinglesPast x = new SinglesPast();
            right(x, times("thing at 3", 8));
            wrong(x, "^thing at 3");
            wrong(x, "day 2; ^thing");
            Check.is("things", x.count(0), 8);
            Check.is("the last one", x.thing(7, 0), 3);
            Check.each(IndexOutOfBoundsException.class, t -> x.thing(t, 0), -1, 8);
            wrong(x, "makes 0 ^8");
            wrong(x, "makes 0 ^9");
            wrong(x, "hinders ^8 0");
            wrong(x, "goer to 1 money 1 does ^8");
            wrong(x, "goer to 1 money 1 born ^8");
            wrong(new SinglesPast(), times("thing at 3", 8) + ";^thing at 3");
            SinglesPast y = Check.with(times("thing at 15", 6) + ";thing at 2 worth 98;thing at 1 so worth 99;makes 7 6;hinders 7 5;hinders 6 4");
            Check.is("all of the last one", row(what -> y.thing(7, what), 7), "1 1 99 64 32 1 1 ");
            Check.is("all of the one ahead of it", row(what -> y.thing(6, what), 7), "2 0 98 0 16 1 2 ");
            right(y, "makes 7 5;hinders 7 6");
            Check.is("told again in another text", row(what -> y.thing(7, what), 7), "1 1 99 32 64 1 1 ");
        });
        Edge.of(4, "GOERS (at most 6, numbered from 0 on)", () -> {
            SinglesPast x = new SinglesPast();
            right(x, times("goer to 3 money 4", 6));
            wrong(x, "^goer to 3 money 4");
            Check.is("goers", x.count(1), 6);
            Check.is("the last one", x.goer(5, 0), 3);
            Check.each(IndexOutOfBoundsException.class, g -> x.goer(g, 0), -1, 6);
            wrong(x, "shuns 0 ^6");
            wrong(x, "shuns ^6 0");
            wrong(new SinglesPast(), times("goer to 3 money 4", 6) + ";^goer to 3 money 4");
            SinglesPast y = Check.with("thing at 3;thing at 4;" + times("goer to 3 money 4", 5) + ";goer to 15 money 999 nerve 99 does 1 born 0;shuns 5 4");
            Check.is("all of the last one", row(what -> y.goer(5, what), 8), "15 1 1 0 999 99 16 0 ");
            Check.is("all of the one ahead of it", row(what -> y.goer(4, what), 8), "3 -1 0 -1 4 50 32 0 ");
        });
        Edge.of(4, "TRAINS (at most 5, numbered from 0 on)", () -> {
            SinglesPast x = new SinglesPast();
            right(x, times("train seats 3 stops a", 5));
            wrong(x, "^train seats 3 stops a");
            Check.is("trains", x.count(2), 5);
            Check.is("the last one", x.train(4, 1), 3);
            Check.each(IndexOutOfBoundsException.class, t -> x.train(t, 0), -1, 5);
            Check.is("stops of all", x.never(), 0xFFFE);
            wrong(new SinglesPast(), times("train seats 3 stops a", 5) + ";^train seats 3 stops a");
            SinglesPast y = Check.with("goer to 15 money 10;" + times("train seats 3 stops a", 4) + ";train seats 6 stops ap");
            y.sell(0, 4);
            Check.is("all of the last one", row(what -> y.train(4, what), 4), "32769 6 1 100 ");
            Check.is("all of the one ahead of it", row(what -> y.train(3, what), 4), "1 3 0 0 ");
        });
        Edge.of(4, "STOPS 0 to 15.", () -> {
            SinglesPast x = new SinglesPast();
            right(x, "thing at 0;thing at 15;goer to 0 money 1;goer to 15 money 1");
            Check.is("the first", x.thing(0, 0), 0);
            Check.is("the last", x.thing(1, 0), 15);
            Check.is("to the first", x.goer(0, 0), 0);
            Check.is("to the last", x.goer(1, 0), 15);
            wrong(x, "thing at ^16");
            wrong(x, "goer to ^16 money 1");
        });
    }

    private static void things() {
        Edge.of(7, "FIRST so or not (not at first)", () -> {
            SinglesPast x = Check.with("thing at 3;thing at 3 so");
            Check.is("not", x.thing(0, 1), 0);
            Check.is("so", x.thing(1, 1), 1);
        });
        Edge.of(7, "WORTH 0 to 99 (1 at first)", () -> {
            SinglesPast x = Check.with("thing at 3;thing at 3 worth 0;thing at 3 so worth 99");
            Check.is("at first", x.thing(0, 2), 1);
            Check.is("the least", x.thing(1, 2), 0);
            Check.is("the most", x.thing(2, 2), 99);
            wrong(x, "thing at 3 worth ^100");
        });
        Edge.of(7, "a THING may MAKE or HINDER another one that is AT a later STOP", () -> {
            SinglesPast x = Check.with("thing at 3;thing at 4;thing at 3");
            right(x, "makes 0 1;hinders 2 1");
            Check.is("makes", x.thing(0, 3), 2);
            Check.is("hinders", x.thing(2, 4), 2);
            wrong(x, "makes 1 ^0");
            wrong(x, "hinders 1 ^2");
            wrong(x, "makes 0 ^2");
            wrong(x, "hinders 0 ^2");
        });
        Edge.of(4, "makes, hinders: two THINGS that there are by then, the second one AT a later STOP, else it is wrong at it", () -> {
            SinglesPast x = Check.with("thing at 3;thing at 4");
            wrong(new SinglesPast(), "makes ^0 1");
            wrong(new SinglesPast(), "hinders ^0 1");
            wrong(x, "makes ^2 1");
            wrong(x, "makes 0 ^2");
            wrong(x, "hinders 0 ^2");
            wrong(x, "makes 0 ^2;thing at 9");
            right(x, "thing at 9;makes 0 2");
            wrong(x, "makes 0 ^0");
            wrong(x, "hinders 1 ^1");
            wrong(x, "makes 2 ^1");
            wrong(x, "makes 0^");
            wrong(x, "makes 01^");
        });
        Edge.of(7, "a later word about two goes before an earlier one", () -> {
            SinglesPast x = Check.with("thing at 3;thing at 4;thing at 5;makes 0 1;hinders 0 1;hinders 0 2;makes 0 2");
            Check.is("makes the last", x.thing(0, 3), 4);
            Check.is("hinders the second", x.thing(0, 4), 2);
            Check.station(x, "makes 0 1;makes 0 1");
            Check.is("makes both", x.thing(0, 3), 6);
            Check.is("hinders none", x.thing(0, 4), 0);
        });
    }

    private static void goers() {
        Edge.of(8, "DEED: a THING that he MAKES or HINDERS when he is there, or none (at first)", () -> {
            SinglesPast x = Check.with("thing at 3;goer to 1 money 1;goer to 1 money 1 does 0;goer to 1 money 1 undoes 0");
            Check.is("none", x.goer(0, 1), -1);
            Check.is("does", x.goer(1, 1), 0);
            Check.is("makes", x.goer(1, 2), 1);
            Check.is("undoes", x.goer(2, 1), 0);
            Check.is("hinders", x.goer(2, 2), 0);
        });
        Edge.of(8, "BORN of a THING or of none (at first)", () -> {
            SinglesPast x = Check.with("thing at 3;goer to 1 money 1;goer to 1 money 1 born 0");
            Check.is("of none", x.goer(0, 3), -1);
            Check.is("of the thing", x.goer(1, 3), 0);
        });
        Edge.of(8, "MONEY 0 to 999", () -> {
            SinglesPast x = Check.with("goer to 1 money 0;goer to 1 money 999");
            Check.is("the least", x.goer(0, 4), 0);
            Check.is("the most", x.goer(1, 4), 999);
            wrong(x, "goer to 1 money ^1000");
        });
        Edge.of(8, "NERVE 0 to 100 (50 at first)", () -> {
            SinglesPast x = Check.with("goer to 1 money 0;goer to 1 money 0 nerve 0;goer to 1 money 0 nerve 100");
            Check.is("at first", x.goer(0, 5), 50);
            Check.is("the least", x.goer(1, 5), 0);
            Check.is("the most", x.goer(2, 5), 100);
            wrong(x, "goer to 1 money 0 nerve ^101");
        });
        Edge.of(8, "SHUNS some GOERS, as bits (none at first; each the other one)", () -> {
            SinglesPast x = Check.with(times("goer to 1 money 0", 6));
            Check.is("none", x.goer(0, 6), 0);
            Check.station(x, "shuns 0 5;shuns 4 0");
            Check.is("the first", x.goer(0, 6), 0x30);
            Check.is("the last", x.goer(5, 6), 1);
            Check.is("the one told first", x.goer(4, 6), 1);
            Check.is("another", x.goer(1, 6), 0);
        });
        Edge.of(8, "GONE or not (not at first) and by which TRAIN (none at first)", () -> {
            SinglesPast x = Check.with("goer to 1 money 10;train seats 1 stops b");
            Check.is("not gone", x.goer(0, 7), 0);
            Check.is("by none", x.goer(0, 8), -1);
            x.sell(0, 0);
            Check.is("gone", x.goer(0, 7), 1);
            Check.is("by it", x.goer(0, 8), 0);
        });
        Edge.of(4, "does, undoes, born: a THING that there is by then", () -> {
            SinglesPast x = Check.with("thing at 3");
            right(x, "goer to 1 money 1 does 0 born 0;goer to 1 money 1 undoes 0");
            wrong(x, "goer to 1 money 1 does ^1");
            wrong(x, "goer to 1 money 1 undoes ^1");
            wrong(x, "goer to 1 money 1 born ^1");
            wrong(x, "goer to 1 money 1 born ^1;thing at 3");
            right(x, "thing at 3;goer to 1 money 1 does 1 born 1");
            wrong(new SinglesPast(), "goer to 1 money 1 does ^0");
            wrong(new SinglesPast(), "goer to 1 money 1 born ^0");
        });
        Edge.of(4, "shuns: two GOERS that there are by then, unlike ones, else it is wrong at the second one", () -> {
            SinglesPast x = Check.with("goer to 1 money 1;goer to 1 money 1");
            right(x, "shuns 1 0");
            wrong(x, "shuns 0 ^0");
            wrong(x, "shuns 1 ^1");
            wrong(x, "shuns ^2 0");
            wrong(x, "shuns 0 ^2");
            wrong(x, "shuns 0 ^2;goer to 1 money 1");
            right(x, "goer to 1 money 1;shuns 0 2");
            wrong(new SinglesPast(), "shuns ^0 0");
        });
    }

    private static void trains() {
        Edge.of(9, "SEATS 1 to 6", () -> {
            SinglesPast x = Check.with("train seats 1 stops a;train seats 6 stops a");
            Check.is("the least", x.train(0, 1), 1);
            Check.is("the most", x.train(1, 1), 6);
            wrong(x, "train seats ^0 stops a");
            wrong(x, "train seats ^7 stops a");
        });
        Edge.of(9, "T: letters a to p for STOPS 0 to 15, none twice", () -> {
            SinglesPast x = Check.with("train seats 1 stops a;train seats 1 stops p;train seats 1 stops abcdefghijklmnop");
            Check.is("the first", x.train(0, 0), 1);
            Check.is("the last", x.train(1, 0), 0x8000);
            Check.is("all", x.train(2, 0), 0xFFFF);
            wrong(x, "train seats 1 stops ^q");
            wrong(x, "train seats 1 stops ^aq");
            wrong(x, "train seats 1 stops ^aa");
            wrong(x, "train seats 1 stops ^abcdefghijklmnopa");
            wrong(x, "train seats 1 stops a^A");
            wrong(x, "train seats 1 stops a^{");
            wrong(x, "train seats 1 stops a^`");
            wrong(x, "train seats 1 stops a^\u00e1");
            wrong(x, "train seats 1 stops a^1");
            wrong(x, "train seats 1 stops ^1");
            wrong(x, "train seats 1 stops ^;day 1");
            wrong(x, "train seats 1 stops a ^b");
        });
        Edge.of(4, "day 0 to 999.", () -> {
            SinglesPast x = Check.with("day 999");
            Check.is("the most", x.count(5), 999);
            wrong(x, "day ^1000");
            wrong(x, "day ^9999");
            right(x, "day 0");
            Check.is("the least", x.count(5), 0);
        });
    }

    private static void lines() {
        Edge.of(4, "thing at N [ so ] [ worth N ] | makes N N | hinders N N | goer to N money N [ nerve N ] [ does N | undoes N ] [ born N ] | shuns N N"
                + " | train seats N stops T | day N.", () -> {
            SinglesPast x = Check.with("thing at 3;thing at 4;goer to 1 money 1;goer to 1 money 1");
            right(x, "goer to 1 money 1 nerve 1 does 1 born 1;goer to 1 money 1 undoes 1;goer to 1 money 1 nerve 1 born 0");
            wrong(x, "thing at 3 worth 3 ^so");
            wrong(x, "thing at 3 so ^so");
            wrong(x, "thing ^3");
            wrong(x, "makes 0 1 ^1");
            wrong(x, "hinders ^so");
            wrong(x, "goer to 1 ^nerve 1 money 1");
            wrong(x, "goer to 1 money 1 born 1 ^does 1");
            wrong(x, "goer to 1 money 1 does 1 ^nerve 1");
            wrong(x, "goer to 1 money 1 does 1 ^undoes 1");
            wrong(x, "goer to 1 money 1 undoes 1 ^does 1");
            wrong(x, "goer to 1 money 1 nerve 1 ^nerve 1");
            wrong(x, "goer to 1 money 1 born 1 ^born 1");
            wrong(x, "shuns 0 1 ^0");
            wrong(x, "train ^stops a seats 1");
            wrong(x, "train seats 1 ^a");
            wrong(x, "day 1 ^1");
            wrong(x, "^worth 3");
            wrong(x, "^cost 3");
            for (String lacking : new String[] {"thing ^so", "thing at ^so", "thing at 3 worth ^so", "makes ^so", "makes 0 ^makes 0 1", "hinders 0 ^so",
                "goer ^1 money 1", "goer ^money 1", "goer to ^money 1", "goer to 1 ^1", "goer to 1 ^does 0", "goer to 1 money ^does 0",
                "goer to 1 money 1 nerve ^does 0", "goer to 1 money 1 does ^born 0", "goer to 1 money 1 undoes ^born 0",
                "goer to 1 money 1 born ^so", "shuns ^so", "shuns 0 ^so", "train ^1 stops a", "train ^stops a", "train seats ^stops a",
                "train seats 1 ^1", "day ^so"}) {
                wrong(x, lacking);
            }
            for (String ended : new String[] {"thing^", "thing at^", "thing at 3 worth^", "makes^", "makes 0^", "hinders^", "hinders 0^", "goer^",
                "goer to^", "goer to 1^", "goer to 1 money^", "goer to 1 money 1 nerve^", "goer to 1 money 1 does^",
                "goer to 1 money 1 undoes^", "goer to 1 money 1 born^", "shuns^", "shuns 0^", "train^", "train seats^", "train seats 1^",
                "train seats 1 stops^", "day^"}) {
                wrong(x, ended + ";day 1");
                wrong(x, ended);
            }
        });
        Edge.of(5, "cost N [ if C ] | fear N [ if C ] | bar [ if C ].", () -> {
            SinglesPast x = new SinglesPast();
            rightLaw(x, "cost 1;fear 1;bar;cost 1 if born;fear 1 if born;bar if born", 6);
            wrongLaw(x, "cost ^if born");
            wrongLaw(x, "fear ^if born");
            wrongLaw(x, "bar ^1");
            wrongLaw(x, "cost 1 ^2");
            wrongLaw(x, "cost 1 ^born");
            wrongLaw(x, "bar if born ^if born");
            wrongLaw(x, "^thing at 3");
            wrongLaw(x, "^5");
            wrongLaw(x, "^5 if born");
            for (String ended : new String[] {"cost^", "fear^", "cost 1 if^", "bar if^", "bar if not^", "bar if (^", "bar if (born^", "bar if 1^",
                "bar if 1 +^", "bar if 1 <^", "bar if 1 < 1 +^", "bar if born and^", "bar if born or^"}) {
                wrongLaw(x, ended + ";bar");
                wrongLaw(x, ended);
            }
        });
        Edge.of(5, "PART: NUMBER | goer | wish | money | nerve | train | gone | day.", () -> {
            for (String part : new String[] {"goer 1", "wish 5", "money 70", "nerve 20", "train 2", "gone 1", "day 45", "123 123"}) {
                String[] two = part.split(" ");
                Check.is(part + " is not below", holds(two[0] + " < " + two[1]), false);
                Check.is(part + " is not above", holds(two[0] + " > " + two[1]), false);
                Check.is(part + " is more than none", holds(two[0] + " > 0"), true);
            }
            SinglesPast x = new SinglesPast();
            wrongLaw(x, "bar if ^seats > 1");
            wrongLaw(x, "bar if ^goers > 1");
        });
    }

    private static void reading() {
        Edge.of(4, "Numbers are of 1 to 3 digits.", () -> {
            SinglesPast x = Check.with("day 007");
            Check.is("seven", x.count(5), 7);
            right(x, "day 7");
            right(x, "day 077");
            wrong(x, "day ^0007");
            wrong(x, "day ^0000");
            wrong(x, "day ^99999999999999999999");
            wrong(x, "day ^");
            wrong(x, "day ^-1");
            wrong(x, "day ^/7");
            wrong(x, "day ^:7");
            wrong(x, "day 7^/");
            wrong(x, "day 7^:");
            wrong(x, "day 1^.5");
        });
        Edge.of(4, "Words are as long as a to z go on; between all there may be blanks (32), also ahead and behind.", () -> {
            SinglesPast x = new SinglesPast();
            right(x, "  thing   at   3   so   worth   9  ;  day   7  ");
            right(x, "thing at3so worth9;day7");
            wrong(x, "^thingat 3");
            wrong(x, "thing at 3 ^soworth 9");
            wrong(x, "^days 7");
            wrong(x, "^daya 7");
            wrong(x, "^dayz 7");
            wrong(x, "^da 7");
            wrong(x, "^da y 7");
            wrong(x, "day 7 ^7");
            wrong(x, "day^\t7");
            wrong(x, "day^\n7");
            wrong(x, "day^\0007");
            wrong(x, "day^\u00a07");
            wrong(x, "^\tday 7");
            wrong(x, "day 7^\n");
            wrong(x, "day^{7");
            wrong(x, "day^`7");
            wrong(x, "^Day 7");
            wrong(x, "thing^At 3");
        });
        Edge.of(4, "A text that is empty, or blanks alone, has no LINE.", () -> {
            SinglesPast x = new SinglesPast();
            right(x, "");
            right(x, " ");
            right(x, " ".repeat(400));
            Check.is("three texts", x.count(3), 3);
            Check.is("nothing told", x.count(0) + x.count(1) + x.count(2), 0);
        });
        Edge.of(5, "A text that is empty, or blanks alone, has no LINE.", () -> {
            SinglesPast x = new SinglesPast();
            rightLaw(x, "", 0);
            Check.is("a law without lines", x.count(4), 0);
            rightLaw(x, " ".repeat(400), 0);
        });
        Edge.of(4, "Of a wrong text nothing stays.", () -> {
            SinglesPast x = Check.with("thing at 1;thing at 2;makes 0 1;goer to 1 money 50;goer to 1 money 50;train seats 1 stops b", "cost 3");
            x.sell(0, 0);
            Seen.unchanged(x, IllegalArgumentException.class, () -> {
                Check.tape(x, "hinders 0 1;shuns 0 1;thing at 9 so;goer to 2 money 3 born 1;train seats 3 stops c;day 55;day");
                x.station();
            });
            Seen.unchanged(x, IllegalArgumentException.class, () -> {
                Check.tape(x, "cost 30;fear 40;bar;cost");
                x.law();
            });
            right(x, "thing at 7;goer to 5 money 1;train seats 1 stops p");
            Check.is("nothing of the wrong thing", x.thing(2, 0) * 10 + x.thing(2, 1), 70);
            Check.is("nothing of the wrong goer", x.goer(2, 3), -1);
            Check.is("he shuns nobody", x.goer(2, 6), 0);
        });
    }

    private static void firstWrongByte() {
        Edge.of(6, "a number of more digits, or out of its bounds, or that tells none that can be", () -> {
            SinglesPast x = Check.with("thing at 3;goer to 1 money 1");
            wrong(x, "thing at 3 worth ^0005");
            wrong(x, "thing at 3 worth   ^100");
            wrong(x, "makes ^1 0");
            wrong(x, "shuns 0  ^1");
            wrong(x, "goer to 1 money 1 nerve 5 undoes   ^9 born 9");
        });
        Edge.of(6, "letters that are none such; a word that is none", () -> {
            SinglesPast x = new SinglesPast();
            wrong(x, "train seats 1 stops   ^bcdz;day");
            wrong(x, "train seats 1 stops   ^bcdb");
            wrong(x, "thing   ^to 3");
            wrong(x, "thing at 3   ^worthy 3");
            wrong(x, "  ^x");
            wrongLaw(x, "cost 3   ^iff born");
            wrongLaw(x, "bar if   ^unborn");
        });
        Edge.of(6, "the ( or not that is a 7th one deep", () -> {
            SinglesPast x = new SinglesPast();
            wrongLaw(x, "bar if (((((( ^(born)))))))");
            wrongLaw(x, "bar if not not not not not not  ^not born");
            wrongLaw(x, "bar if ((((((^not born))))))");
            wrongLaw(x, "bar if not not not not not not ^(born)");
        });
        Edge.of(6, "of a LINE, a THING, a GOER, a TRAIN too many, the first word", () -> {
            SinglesPast x = new SinglesPast();
            wrong(x, times("day 1", 14) + ";  ^day 1");
            wrong(x, times("thing at 1", 8) + ";  ^thing at 99");
            wrong(x, times("goer to 1 money 1", 6) + ";  ^goer");
            wrong(x, times("train seats 1 stops a", 5) + ";  ^train seats 9");
            wrongLaw(x, times("bar", 12) + ";  ^bar");
        });
        Edge.of(6, "or the text's length, if more must come", () -> {
            SinglesPast x = Check.with("thing at 3;thing at 4;goer to 1 money 1");
            for (String cut : new String[] {"thing^", "thing at^", "thing at ^", "thing at 3 worth^", "makes^", "makes 0 ^", "goer^",
                "goer to^", "goer to 3^", "goer to 3 money^", "goer to 3 money 3 nerve ^", "goer to 3 money 3 does^",
                "goer to 3 money 3 born^", "shuns 0^", "train^", "train seats^", "train seats 3^", "train seats 3 stops  ^", "day^", "day 1;^"}) {
                wrong(x, cut);
            }
            for (String cut : new String[] {"cost^", "fear ^", "bar if^", "bar if not^", "bar if (^", "bar if (born^", "bar if 1^",
                "bar if 1 +^", "bar if 1 <^", "bar if 1 > 2 +^", "bar if born and^", "bar if born or ^", "bar;^"}) {
                wrongLaw(x, cut);
            }
        });
    }

    private static void laws() {
        Edge.of(5, "THE LAW (a text, in place of the one before): LINE { ; LINE }, at most 12", () -> {
            SinglesPast x = Check.with("goer to 1 money 1;train seats 1 stops b");
            rightLaw(x, times("cost 3", 12), 12);
            Check.is("all twelve", x.cost(0, 0), 46);
            wrongLaw(x, times("cost 9", 12) + ";^cost 9");
            Check.is("the one before yet", x.cost(0, 0), 46);
            rightLaw(x, "fear 3", 1);
            Check.is("in its place", x.cost(0, 0), 10);
            Check.is("fear", x.fear(0, 0), 3);
            wrongLaw(x, "^;");
            wrongLaw(x, "bar;^;bar");
            wrongLaw(x, "bar ^bar");
        });
        Edge.of(5, "All numbers are of 1 to 3 digits (N 0 to 200).", () -> {
            SinglesPast x = Check.with("goer to 1 money 1;train seats 1 stops b");
            rightLaw(x, "cost 200;fear 0;cost 000", 3);
            Check.is("the most", x.cost(0, 0), 210);
            wrongLaw(x, "cost ^201");
            wrongLaw(x, "fear ^201");
            wrongLaw(x, "cost ^0200");
            rightLaw(x, "fear 1 if 999 > 998;fear 2 if 000 < 001", 2);
            Check.is("other numbers up to 999", x.fear(0, 0), 3);
            wrongLaw(x, "fear 1 if ^1000 > 1");
            wrongLaw(x, "fear 1 if 1 > ^0001");
            wrongLaw(x, "fear 1 if 1 + ^1000 > 1");
        });
        Edge.of(5, "( and not within one another at most 6 deep.", () -> {
            SinglesPast x = new SinglesPast();
            rightLaw(x, "bar if ((((((born))))))", 1);
            rightLaw(x, "bar if not not not not not not born", 1);
            rightLaw(x, "bar if not(not(not(born)))", 1);
            rightLaw(x, "bar if ((((((born)))))) and ((((((born)))))) or not not not not not not born", 1);
            wrongLaw(x, "bar if ((((((^(born)))))))");
            wrongLaw(x, "bar if not not not not not not ^not born");
            wrongLaw(x, "bar if not(not(not(^not born)))");
            wrongLaw(x, "bar if not(not(not(^(born))))");
            wrongLaw(x, "bar if born and ((((((^(born)))))))");
        });
    }

    /** A station in which GOER 1, of WISH 5, MONEY 70 and NERVE 20, is looked at for TRAIN 2 on DAY 345. */
    private static boolean holds(String condition) {
        SinglesPast x = Check.with("thing at 9;goer to 3 money 40;goer to 5 money 70 nerve 20 undoes 0 born 0;goer to 6 money 500;"
                + "train seats 6 stops p;train seats 6 stops p;train seats 2 stops fg;day 345");
        x.sell(2, 2);
        Check.law(x, "fear 7 if " + condition);
        return x.fear(1, 2) == 7;
    }

    private static void lawReading() {
        Edge.of(5, "day: DAY modulo 100", () -> {
            Check.is("345 is 45", holds("day > 44 and day < 46"), true);
            SinglesPast x = Check.with("goer to 1 money 1;train seats 1 stops b;day 99", "fear 1 if day > 98;cost 1 if day < 1");
            Check.is("99", x.fear(0, 0) * 100 + x.cost(0, 0), 110);
            x.days(1);
            Check.is("100 is 0", x.fear(0, 0) * 100 + x.cost(0, 0), 11);
        });
        Edge.of(5, "full: as many are GONE by it as SEATS", () -> {
            SinglesPast x = Check.with("goer to 1 money 99;goer to 1 money 99;goer to 1 money 99;train seats 2 stops b", "fear 1 if full");
            Check.is("none", x.fear(2, 0), 0);
            x.sell(0, 0);
            Check.is("one of two", x.fear(2, 0), 0);
            x.sell(1, 0);
            Check.is("two of two", x.fear(2, 0), 1);
            Check.is("for one of them too", x.fear(0, 0), 1);
            Check.law(x, "fear 1 if full;fear 2 if not full;fear 4 if full and 1 < 2");
            Check.is("not full does not hold then", x.fear(2, 0), 5);
            Check.law(x, "fear 1 if full");
            x.recall(0);
            Check.is("one again", x.fear(2, 0), 0);
            SinglesPast y = Check.with("goer to 1 money 99;goer to 15 money 99;train seats 1 stops bp;train seats 2 stops bp", "fear 1 if full");
            y.sell(0, 0);
            Check.is("one of one", y.fear(1, 0), 1);
            Check.is("none of two", y.fear(1, 1), 0);
            y.sell(1, 1);
            Check.is("one of two by the other", y.fear(0, 1), 0);
        });
        Edge.of(5, "gone: how many are GONE by it", () -> {
            Check.is("one", holds("gone > 0 and gone < 2"), true);
            SinglesPast x = Check.with("goer to 1 money 99;goer to 1 money 99;train seats 6 stops b;train seats 6 stops b", "fear 1 if gone < 1");
            x.sell(0, 1);
            Check.is("none by the first", x.fear(1, 0), 1);
            Check.is("one by the second", x.fear(1, 1), 0);
        });
        Edge.of(5, "born: he is BORN of a THING; does: he has a DEED", () -> {
            SinglesPast x = Check.with("thing at 9;goer to 1 money 9;goer to 1 money 9 born 0;goer to 1 money 9 does 0;"
                    + "goer to 1 money 9 undoes 0;train seats 1 stops b", "fear 1 if born;fear 2 if does");
            int[] fears = {0, 1, 2, 2};
            for (int g = 0; g < 4; g++) {
                Check.is("fear of " + g, x.fear(g, 0), fears[g]);
            }
            Check.is("both", holds("born and does"), true);
            Check.is("not born", holds("not born"), false);
            Check.is("does not", holds("not does"), false);
        });
        Edge.of(5, "ATOM: not ATOM | ( C ) | born | does | full | SUM < SUM | SUM > SUM. SUM: PART { + PART }", () -> {
            Check.is("below", holds("69 < money"), true);
            Check.is("as many is not below", holds("70 < money"), false);
            Check.is("above", holds("71 > money"), true);
            Check.is("as many is not above", holds("70 > money"), false);
            Check.is("sums on both sides", holds("goer + wish + 1 + train < 2 + 2 + 2 + 4"), true);
            Check.is("sums as great", holds("goer + wish + 1 + train < 2 + 2 + 2 + 3"), false);
            Check.is("all parts count", holds("3 + 1 < 5 + 0"), true);
            Check.is("not the last ones alone", holds("2 + 2 < 1 + 3"), false);
            Check.is("a great sum", holds("999 + 999 + 999 > 999 + 999 + 998"), true);
            SinglesPast x = new SinglesPast();
            wrongLaw(x, "bar if ^< 1");
            wrongLaw(x, "bar if 1 < ^< 1");
            wrongLaw(x, "bar if 1 < 2 ^< 3");
            wrongLaw(x, "bar if 1 ^= 1");
            wrongLaw(x, "bar if 1 ^2");
            wrongLaw(x, "bar if goer ^wish");
            wrongLaw(x, "bar if 1 + ^+ 1 < 2");
            wrongLaw(x, "bar if 1 + ^born < 2");
            wrongLaw(x, "bar if born ^< 2");
            wrongLaw(x, "bar if (^)");
            wrongLaw(x, "bar if (1^) < 2");
            wrongLaw(x, "bar if (born^;bar");
            wrongLaw(x, "bar if born^)");
            wrongLaw(x, "bar if not ^and born");
        });
        Edge.of(5, "C: ALL { or ALL }; ALL: ATOM { and ATOM }", () -> {
            Check.is("or of two that hold", holds("born or does"), true);
            Check.is("or of three that hold", holds("born or does or 1 < 2"), true);
            Check.is("or of two that hold, in brackets", holds("(born or does) and 1 < 2"), true);
            Check.is("not of an or of two that hold", holds("not (born or does)"), false);
            Check.is("or of none", holds("full or full or full"), false);
            Check.is("the last of three", holds("full or full or born"), true);
            Check.is("and of three", holds("born and does and 1 < 2"), true);
            Check.is("and but for the first", holds("full and born and does"), false);
            Check.is("and but for the last", holds("born and does and full"), false);
            Check.is("and goes before or", holds("born or born and full"), true);
            Check.is("and goes before or behind it", holds("full and born or born"), true);
            Check.is("not so in brackets", holds("(born or born) and full"), false);
            Check.is("not is of one atom alone", holds("not full and full"), false);
            Check.is("a bracket's or is its own", holds("full and (full or born)"), false);
            Check.is("a bracket's and is its own", holds("born and (full and born)"), false);
            Check.is("a bracket behind or", holds("full or (born and born)"), true);
            Check.is("not of a bracket", holds("not (full and full)"), true);
            Check.is("not of a comparison", holds("not goer > 1 and born"), true);
        });
    }
}
