import java.nio.charset.StandardCharsets;

/** What the tests share: feeding texts, and telling answers that are not due. */
final class Check {
    private static int wrong = 0;
    private static int asked = 0;
    private static String place = "";

    private Check() {
    }

    interface Call {
        void run();
    }

    static void is(String what, long got, long want) {
        asked++;
        if (got != want) {
            tell(what + " answered " + got + ", due is " + want);
        }
    }

    private static void tell(String fault) {
        wrong++;
        System.out.println(place + fault);
    }

    static void is(String what, String got, String want) {
        asked++;
        if (!got.equals(want)) {
            tell(what + " answered " + got + ", due is " + want);
        }
    }

    static void is(String what, boolean got, boolean want) {
        is(what, got ? 1 : 0, want ? 1 : 0);
    }

    static void fails(String what, Class<? extends RuntimeException> want, Call call) {
        asked++;
        String got = "nothing";
        try {
            call.run();
        } catch (RuntimeException e) {
            got = e.getClass().getName();
        }
        if (!got.equals(want.getName())) {
            tell(what + " threw " + got + ", due is " + want.getName());
        }
    }

    static void noIndex(String what, Call call) {
        fails(what, IndexOutOfBoundsException.class, call);
    }

    static void noArgument(String what, Call call) {
        fails(what, IllegalArgumentException.class, call);
    }

    static void noState(String what, Call call) {
        fails(what, IllegalStateException.class, call);
    }

    /** None of these numbers may be taken for a THING, a GOER, a what, as it may be. */
    interface CallOf {
        void run(int n);
    }

    static void each(Class<? extends RuntimeException> want, CallOf call, int... numbers) {
        for (int n : numbers) {
            fails("with " + n, want, () -> call.run(n));
        }
    }

    static void noElement(String what, Call call) {
        fails(what, java.util.NoSuchElementException.class, call);
    }

    /** Runs a test under a name that stands ahead of all that it tells; one that asks nothing, or throws, is wrong. */
    static void under(String name, Call test) {
        int before = asked;
        place = name + ": ";
        try {
            test.run();
        } catch (RuntimeException e) {
            tell("threw " + e);
        }
        if (asked == before) {
            tell("asks nothing");
        }
        place = "";
    }

    /** Puts the text alone on the TAPE. */
    static void tape(SinglesPast x, String text) {
        x.end(0);
        byte[] bytes = text.getBytes(StandardCharsets.ISO_8859_1);
        for (int i = 0; i < bytes.length; i += 20) {
            int[] five = new int[5];
            for (int k = 0; k < 20; k++) {
                int b = i + k < bytes.length ? bytes[i + k] & 255 : 0;
                five[k / 4] = five[k / 4] << 8 | b;
            }
            x.feed(five[0], five[1], five[2], five[3], five[4]);
        }
        x.end(bytes.length);
    }

    /** Rows to be told: THING, 1 or 0, and so on. */
    static void rows(SinglesPast x, int... bytes) {
        StringBuilder s = new StringBuilder();
        for (int b : bytes) {
            s.append((char) b);
        }
        tape(x, s.toString());
    }

    static void station(SinglesPast x, String text) {
        tape(x, text);
        x.station();
    }

    static void law(SinglesPast x, String text) {
        tape(x, text);
        x.law();
    }

    static SinglesPast with(String text) {
        SinglesPast x = new SinglesPast();
        station(x, text);
        return x;
    }

    static SinglesPast with(String text, String law) {
        SinglesPast x = with(text);
        law(x, law);
        return x;
    }

    static void end() {
        System.out.println(asked + " answers looked at, " + wrong + " not as due");
        if (wrong > 0) {
            System.exit(1);
        }
    }
}
