import java.util.ArrayList;
import java.util.List;
import java.util.Random;

/** Texts of THE STATION and of THE LAW, most of them right, and told rows. */
final class RandomTexts {
    private final Random random;
    private int things;
    private int goers;
    private final List<Integer> at = new ArrayList<>();

    RandomTexts(Random random) {
        this.random = random;
    }

    /** Tells which THINGS, by their STOPS, and how many GOERS there are by now. */
    void know(List<Integer> stopsOfThings, int goersNow) {
        at.clear();
        at.addAll(stopsOfThings);
        things = at.size();
        goers = goersNow;
    }

    private int upTo(int n) {
        return random.nextInt(n + 1);
    }

    String station(boolean full) {
        List<String> lines = new ArrayList<>();
        int many = full ? 10 + upTo(4) : upTo(5);
        for (int i = 0; i < many; i++) {
            lines.add(line(full && i < 3 ? 0 : full && i < 6 ? 3 : full && i < 8 ? 4 : upTo(6)));
        }
        return join(lines);
    }

    private String line(int kind) {
        if (kind == 0 && (things < 8 || random.nextInt(30) == 0)) {
            int stop = upTo(15);
            at.add(stop);
            things++;
            return "thing at " + stop + (random.nextBoolean() ? " so" : "") + (random.nextBoolean() ? " worth " + upTo(99) : "");
        }
        if (kind <= 2 && things > 1) {
            return tie();
        }
        if (kind == 3 && (goers < 6 || random.nextInt(30) == 0)) {
            goers++;
            String thing = things > 0 ? String.valueOf(upTo(things - 1)) : "0";
            String deed = things == 0 || random.nextInt(4) == 0 ? "" : (random.nextBoolean() ? " does " : " undoes ") + thing;
            String born = things == 0 || random.nextInt(3) == 0 ? "" : " born " + upTo(things - 1);
            int money = random.nextBoolean() ? upTo(60) : upTo(999);
            return "goer to " + upTo(random.nextBoolean() ? 4 : 15) + " money " + money
                    + (random.nextBoolean() ? " nerve " + upTo(100) : "") + deed + born;
        }
        if (kind == 5 && goers > 1) {
            int one = upTo(goers - 1);
            int other = random.nextInt(20) == 0 ? one : (one + 1 + upTo(goers - 2)) % goers;
            return "shuns " + one + " " + other;
        }
        if (kind == 6) {
            return "day " + upTo(999);
        }
        return train();
    }

    private String tie() {
        int x = upTo(things - 1);
        int y = upTo(things - 1);
        for (int i = 0; i < 20 && at.get(x) >= at.get(y); i++) {
            x = upTo(things - 1);
            y = upTo(things - 1);
        }
        if (at.get(x) >= at.get(y) && random.nextInt(20) > 0) {
            return "day " + upTo(999);
        }
        return (random.nextBoolean() ? "makes " : "hinders ") + x + " " + y;
    }

    private String train() {
        StringBuilder stops = new StringBuilder();
        int set = random.nextInt(0xffff) | 1 << upTo(15);
        set |= random.nextInt(32);
        for (int s = 15; s >= 0; s--) {
            if ((set & 1 << s) != 0) {
                stops.append((char) ('a' + s));
            }
        }
        return "train seats " + (1 + upTo(random.nextBoolean() ? 1 : 5)) + " stops " + stops;
    }

    String law() {
        List<String> lines = new ArrayList<>();
        int many = random.nextInt(12) == 0 ? 13 : upTo(7);
        for (int i = 0; i < many; i++) {
            String head = List.of("cost " + upTo(40), "fear " + upTo(30), "bar", "cost " + upTo(205)).get(upTo(3));
            boolean alone = !head.equals("bar") && random.nextInt(4) == 0;
            lines.add(alone ? head : head + " if " + condition(random.nextInt(20) == 0 ? 7 : 2));
        }
        return join(lines);
    }

    private String condition(int depth) {
        StringBuilder s = new StringBuilder(atom(depth));
        for (int i = upTo(1); i > 0; i--) {
            s.append(random.nextBoolean() ? " and " : " or ").append(atom(depth));
        }
        return s.toString();
    }

    private String atom(int depth) {
        int dice = random.nextInt(8);
        if (depth > 0 && (dice < 2 || depth > 3)) {
            return random.nextBoolean() ? "not " + atom(depth - 1) : "( " + condition(depth > 3 ? depth - 1 : 1) + ")";
        }
        if (dice < 4) {
            return List.of("born", "does", "full").get(upTo(2));
        }
        return sum() + (random.nextBoolean() ? " < " : " > ") + sum();
    }

    private String sum() {
        StringBuilder s = new StringBuilder(part());
        for (int i = random.nextInt(3) / 2; i > 0; i--) {
            s.append("+").append(part());
        }
        return s.toString();
    }

    private String part() {
        List<String> names = List.of("goer", "wish", "money", "nerve", "train", "gone", "day");
        return random.nextInt(3) == 0 ? String.valueOf(upTo(random.nextBoolean() ? 6 : 99)) : names.get(upTo(6));
    }

    private String join(List<String> lines) {
        StringBuilder s = new StringBuilder();
        for (int i = 0; i < lines.size(); i++) {
            s.append(i > 0 ? random.nextBoolean() ? ";" : " ; " : "").append(lines.get(i));
        }
        if (s.length() > 400) {
            s.setLength(s.lastIndexOf(";", 390));
        }
        return s.toString();
    }

    String maybeBroken(String text) {
        StringBuilder s = new StringBuilder(text);
        int times = random.nextInt(3);
        for (int i = 0; i < times && s.length() > 0 && s.length() < 399; i++) {
            int place = random.nextInt(s.length());
            switch (random.nextInt(4)) {
                case 0 -> s.setCharAt(place, " ;()<>+09az\u00ff".charAt(random.nextInt(12)));
                case 1 -> s.deleteCharAt(place);
                case 2 -> s.insert(place, " ;()<>+09az ".charAt(random.nextInt(12)));
                default -> s.setLength(place);
            }
        }
        return s.toString();
    }

    String told() {
        StringBuilder s = new StringBuilder();
        int rows = random.nextInt(12) == 0 ? 19 + upTo(3) : upTo(3);
        for (int i = 0; i < rows; i++) {
            s.append((char) upTo(random.nextInt(9) == 0 ? 9 : Math.max(0, things - 1)));
            s.append((char) (random.nextInt(25) == 0 ? 2 : upTo(1)));
        }
        if (random.nextInt(15) == 0) {
            s.append((char) 0);
        }
        return s.toString();
    }
}
