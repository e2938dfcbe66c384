/** All of a small station that can be seen and that an act changes, as one text. */
final class Seen {
    private Seen() {
    }

    static String of(SinglesPast x) {
        StringBuilder s = new StringBuilder();
        for (int what = 0; what < 10; what++) {
            s.append(x.count(what)).append(' ');
        }
        for (int t = 0; t < x.count(0); t++) {
            s.append("\nthing ");
            for (int what = 0; what < 8; what++) {
                s.append(x.thing(t, what)).append(' ');
            }
        }
        for (int g = 0; g < x.count(1); g++) {
            s.append("\ngoer ");
            for (int what = 0; what < 11; what++) {
                s.append(x.goer(g, what)).append(' ');
            }
        }
        for (int t = 0; t < x.count(2); t++) {
            s.append("\ntrain ").append(x.train(t, 0)).append(' ').append(x.train(t, 1));
            for (int g = 0; g < x.count(1); g++) {
                s.append(' ').append(x.cost(g, t)).append(' ').append(x.fear(g, t)).append(' ').append(x.may(g, t));
            }
        }
        for (int row = 0; row < x.count(8); row++) {
            s.append("\nlog ");
            for (int what = 0; what < 4; what++) {
                s.append(x.log(row, what)).append(' ');
            }
        }
        int seed = x.seed(0);
        x.seed(seed);
        return s.append("\nseed ").append(seed).toString();
    }

    /** The call throws just that, and all that can be seen is as it was ahead of it. */
    static void unchanged(SinglesPast x, Class<? extends RuntimeException> want, Check.Call call) {
        String before = of(x);
        Check.fails("the call", want, call);
        Check.is("what is seen behind the call", of(x), before);
    }
}
