/** All of a small station that can be seen and that an act changes, as one text. */
final class Seen {
    private Seen() {
    }

    static String of(SinglesPast x) {
        StringBuilder s = new StringBuilder();
        for (int what = 0; what < 10; what++) {
            s.append(x.count(what)).append(' ');
        }
        for (int t = 0; t < x.count(0); t++) {
            s.append("\nthing ");
            for (int what = 0; what < 8; what++) {
                s.append(x.thing(t, what)).append(' ');
            }
        }
        for (int g = 0; g < x.count(1); g++) {
            s.append("\ngoer ");
            for (int what = 0; what < 11; what++) {
                s.append(x.goer(g, what)).append(' ');
            }
        }
        for (int t = 0; t < x.count(2); t++) {
            s.append("\ntrain ").append(x.train(t, 0)).append(' ').append(x.train(t, 1));
            for (int g = 0; g < x.count(1); g++) {
                s.append(' ').append(x.cost(g, t)).append(' ').append(x.fear(g, t)).append(' ').append(x.may(g, t));
            }
        }
        for (int row = 0; row < x.count(8); row++) {
            s.append("\nlog ");
            for (int what = 0; what < 4; what++) {
                s.append(x.log(row, what)).append(' ');
            }
        }
        int seed = x.seed(0);
        x.seed(seed);
        return s.append("\nseed ").append(seed).toString();
    }

    /** What a station answers that is worked out of all this; the TAPE must be empty. */
    static String answers(SinglesPast x) {
        int[] all = {x.empty(), x.never(), x.brave(), x.gone(), x.unborn(), x.twins(), x.worth(), x.dearest(), x.clash(), x.loose(), x.key(),
            x.ring(), x.now(), x.past(), x.agree(), x.heavy(), x.send(), x.who(false), x.who(true), x.look(), x.colours(-1), x.pairs(-1)};
        StringBuilder s = new StringBuilder();
        for (int answer : all) {
            s.append(answer).append(' ');
        }
        for (int t = 0; t < x.count(0); t++) {
            s.append("\nthing ").append(x.hangs(t));
        }
        for (int g = 0; g < x.count(1); g++) {
            s.append("\ngoer ").append(x.otherwise(g)).append(' ').append(x.colours(g)).append(' ').append(x.pairs(g)).append(' ')
                    .append(x.odds(g, 2)).append(' ').append(x.led(g, false)).append(' ').append(x.led(g, true))
                    .append(' ').append(x.world(1 << g)).append(' ').append(x.agrees(1 << g));
        }
        for (int stop = 0; stop < 16; stop++) {
            s.append("\nstop ").append(x.price(stop, false)).append(' ').append(x.price(stop, true)).append(' ').append(x.crowd(stop));
        }
        // Last of all: days that do not stay might leave something behind that the others must not answer by.
        for (int g = 0; g < x.count(1); g++) {
            s.append("\nahead ").append(x.ahead(g, 3));
        }
        s.append("\ntrial ").append(x.trial(3, false)).append(' ').append(x.trial(3, true));
        s.append("\nspan ").append(x.span(2, false)).append(' ').append(x.span(2, true));
        return s.toString();
    }

    /** The call throws just that, and all that can be seen is as it was ahead of it. */
    static void unchanged(SinglesPast x, Class<? extends RuntimeException> want, Check.Call call) {
        String before = of(x);
        Check.fails("the call", want, call);
        Check.is("what is seen behind the call", of(x), before);
    }
}
