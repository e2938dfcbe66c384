import java.lang.reflect.InvocationTargetException;
import java.lang.reflect.Method;
import java.util.ArrayList;
import java.util.Comparator;
import java.util.List;
import java.util.Random;

/** Runs of random calls: SinglesPast must answer as the PlainModel does, exceptions too. */
public final class RandomRunsTest {
    private static final int CALLS_MOST = 512;

    private final Random random;
    private final SinglesPast due = new SinglesPast();
    private final PlainModel plain = new PlainModel();
    private final List<Method> faces = new ArrayList<>();
    private final StringBuilder trace = new StringBuilder();
    private int calls;
    private int wrong;
    private static final java.util.Map<String, Integer> OUTCOMES = new java.util.TreeMap<>();

    private RandomRunsTest(long seed) {
        random = new Random(seed);
        for (Method m : SinglesPast.class.getDeclaredMethods()) {
            if (java.lang.reflect.Modifier.isPublic(m.getModifiers())) {
                faces.add(m);
            }
        }
        faces.sort(Comparator.comparing(Method::getName));
    }

    public static void main(String[] args) throws Exception {
        int runs = args.length > 0 ? Integer.parseInt(args[0]) : 400;
        long from = args.length > 1 ? Long.parseLong(args[1]) : 0;
        int bad = 0;
        for (long seed = from; seed < from + runs && bad < 3; seed++) {
            RandomRunsTest run = new RandomRunsTest(seed);
            run.play();
            if (run.wrong > 0) {
                bad++;
                System.out.println("run of seed " + seed + ":\n" + run.trace);
            }
        }
        if (args.length > 2) {
            OUTCOMES.forEach((k, v) -> System.out.println(k + " " + v));
        }
        System.out.println(runs + " random runs, " + bad + " of them wrong");
        if (bad > 0) {
            System.exit(1);
        }
    }

    private void play() throws Exception {
        RandomTexts texts = new RandomTexts(random);
        int stations = 1 + random.nextInt(3);
        for (int i = 0; i < stations; i++) {
            tellWhatThereIs(texts);
            read(texts.station(i == 0), "station");
        }
        if (random.nextInt(4) > 0) {
            read(texts.law(), "law");
        }
        while (calls < CALLS_MOST && wrong == 0) {
            int dice = random.nextInt(300);
            tellWhatThereIs(texts);
            if (dice < 3) {
                read(texts.maybeBroken(texts.station(false)), "station");
            } else if (dice < 7) {
                read(texts.maybeBroken(texts.law()), "law");
            } else if (dice < 27) {
                read(texts.told(), List.of("send", "who", "look").get(random.nextInt(3)));
            } else {
                anyCall();
            }
        }
    }

    private void tellWhatThereIs(RandomTexts texts) {
        List<Integer> stops = new ArrayList<>();
        for (int t = 0; t < plain.count(0); t++) {
            stops.add(plain.thing(t, 0));
        }
        texts.know(stops, plain.count(1));
    }

    private void read(String text, String name) throws Exception {
        // What an object answers behind its last promised call is free: a text that does not fit any more stays untold.
        boolean fits = calls + (text.length() + 19) / 20 + 3 <= CALLS_MOST;
        if (!fits) {
            return;
        }
        StringBuilder padded = new StringBuilder(text);
        while (padded.length() % 20 != 0) {
            padded.append('\0');
        }
        for (int i = 0; i < padded.length(); i += 20) {
            Object[] five = new Object[5];
            for (int k = 0; k < 5; k++) {
                int n = 0;
                for (int b = 0; b < 4; b++) {
                    n = n << 8 | padded.charAt(i + 4 * k + b);
                }
                five[k] = n;
            }
            call(face("feed"), five);
        }
        call(face("end"), text.length());
        trace.append("   \"").append(text).append("\"\n");
        Method m = face(name);
        call(m, m.getParameterCount() == 0 ? new Object[0] : new Object[] {random.nextBoolean()});
        call(face("fault"));
    }

    private Method face(String name) {
        for (Method m : faces) {
            if (m.getName().equals(name)) {
                return m;
            }
        }
        throw new IllegalStateException(name);
    }

    private void anyCall() throws Exception {
        Method m = faces.get(random.nextInt(faces.size()));
        // So that a run has more deeds than forgetting.
        if (List.of("back", "undo", "image", "feed", "end").contains(m.getName()) && random.nextInt(3) > 0) {
            m = face(List.of("sell", "days", "recall", "pay", "wish", "deed", "sell").get(random.nextInt(7)));
        }
        Object[] args = new Object[m.getParameterCount()];
        for (int i = 0; i < args.length; i++) {
            args[i] = m.getParameterTypes()[i] == boolean.class ? (Object) random.nextBoolean() : (Object) anyInt(m.getName(), i);
        }
        call(m, args);
    }

    private int anyInt(String name, int place) {
        if (name.equals("days") || name.equals("trial") || name.equals("span")) {
            int dice = random.nextInt(10);
            return dice < 5 ? random.nextInt(4) : dice < 8 ? random.nextInt(61) : random.nextInt(70) - 5;
        }
        if (name.equals("pick")) {
            return random.nextInt(40) == 0 ? 9 + random.nextInt(4) : random.nextInt(10);
        }
        if (name.equals("asks") || name.equals("stops") && place == 1) {
            return random.nextInt(3) == 0 ? random.nextInt() & random.nextInt() & random.nextInt() : random.nextInt(1 << 17);
        }
        if (name.equals("pay") && place == 1 || name.equals("nerve") && place == 1) {
            return random.nextInt(name.equals("pay") ? 200 : 110) - 1;
        }
        int dice = random.nextInt(100);
        if (dice < 70) {
            return random.nextInt(Math.max(1, thereAre(name, place)));
        }
        if (dice < 85) {
            return random.nextInt(18) - 2;
        }
        return dice < 96 ? random.nextInt(70) - 2 : random.nextInt();
    }

    /** How many there are of what the call's number tells, so that most calls tell one that there is. */
    private int thereAre(String name, int place) {
        if (List.of("thing", "hangs", "deed").contains(name) && (place == 1) == name.equals("deed")) {
            return plain.count(0);
        }
        if (List.of("train", "stops").contains(name) && place == 0
                || List.of("cost", "fear", "may", "sell").contains(name) && place == 1) {
            return plain.count(2);
        }
        if (List.of("price", "crowd", "wish").contains(name) && (place == 1) == name.equals("wish")) {
            return 16;
        }
        if (List.of("world", "agrees").contains(name)) {
            return 64;
        }
        return place == 0 && !List.of("log", "count", "seed").contains(name) ? plain.count(1)
                : List.of("kills", "quarrel").contains(name) ? plain.count(1) : 11;
    }

    private void call(Method m, Object... args) throws Exception {
        calls++;
        String got = answer(m, due, args);
        Method other = PlainModel.class.getDeclaredMethod(m.getName(), m.getParameterTypes());
        String want = answer(other, plain, args);
        trace.append("  ").append(m.getName()).append(java.util.Arrays.toString(args)).append(" -> ").append(got).append('\n');
        OUTCOMES.merge(m.getName() + (got.startsWith("throws") ? " " + got : " answers " + (got.equals("-1") ? "NONE" : "more")), 1, Integer::sum);
        if (!got.equals(want)) {
            wrong++;
            trace.append("  due is ").append(want).append('\n');
        }
    }

    private static String answer(Method m, Object on, Object[] args) throws Exception {
        try {
            return String.valueOf(m.invoke(on, args));
        } catch (InvocationTargetException e) {
            return "throws." + e.getCause().getClass().getSimpleName();
        }
    }
}
