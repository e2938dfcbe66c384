import java.util.ArrayList;
import java.util.Arrays;
import java.util.HashSet;
import java.util.List;
import java.util.NoSuchElementException;
import java.util.Set;
import java.util.TreeSet;

/**
 * The document again, by brute force and with no thought of speed: each term as its words say it,
 * so that random runs can compare it with SinglesPast.
 */
final class PlainModel {
    static final int NONE = -1;

    static final class Thing {
        int at;
        boolean first;
        int worth = 1;
        Set<Integer> makes = new TreeSet<>();
        Set<Integer> hinders = new TreeSet<>();

        Thing copy() {
            Thing t = new Thing();
            t.at = at;
            t.first = first;
            t.worth = worth;
            t.makes.addAll(makes);
            t.hinders.addAll(hinders);
            return t;
        }
    }

    static final class Goer {
        int wish;
        int deed = NONE;
        boolean makes;
        int born = NONE;
        int money;
        int nerve = 50;
        Set<Integer> shuns = new TreeSet<>();
        int by = NONE;

        Goer copy() {
            Goer g = new Goer();
            g.wish = wish;
            g.deed = deed;
            g.makes = makes;
            g.born = born;
            g.money = money;
            g.nerve = nerve;
            g.shuns.addAll(shuns);
            g.by = by;
            return g;
        }
    }

    static final class Train {
        int stops;
        int seats;
    }

    static final class All {
        List<Thing> things = new ArrayList<>();
        List<Goer> goers = new ArrayList<>();
        List<Train> trains = new ArrayList<>();
        int texts;
        String law;
        int day;
        int seed = 1;
        List<int[]> log = new ArrayList<>();

        All copy() {
            All a = new All();
            for (Thing t : things) {
                a.things.add(t.copy());
            }
            for (Goer g : goers) {
                a.goers.add(g.copy());
            }
            for (Train t : trains) {
                Train c = new Train();
                c.stops = t.stops;
                c.seats = t.seats;
                a.trains.add(c);
            }
            a.texts = texts;
            a.law = law;
            a.day = day;
            a.seed = seed;
            a.log.addAll(log);
            return a;
        }
    }

    static final class Wrong extends RuntimeException {
        private static final long serialVersionUID = 1L;
        final int at;

        Wrong(int at) {
            this.at = at;
        }
    }

    private All all = new All();
    private All kept;
    private List<All> acts = new ArrayList<>();
    private String tape = "";
    private int wrongAt = NONE;

    // ---- texts ----

    int feed(int a, int b, int c, int d, int e) {
        if (tape.length() + 20 > 400) {
            return NONE;
        }
        StringBuilder s = new StringBuilder(tape);
        for (int n : new int[] {a, b, c, d, e}) {
            for (int i = 3; i >= 0; i--) {
                s.append((char) ((n >>> 8 * i) & 255));
            }
        }
        tape = s.toString();
        return tape.length();
    }

    boolean end(int n) {
        if (n < 0 || n > tape.length()) {
            return false;
        }
        tape = tape.substring(0, n);
        return true;
    }

    /** Words, numbers, signs with where they begin; the last one is the end. */
    static final class Tokens {
        final List<String> words = new ArrayList<>();
        final List<Integer> begins = new ArrayList<>();
        int next;

        Tokens(String text) {
            int i = 0;
            while (i < text.length()) {
                if (text.charAt(i) == ' ') {
                    i++;
                    continue;
                }
                int j = i + 1;
                if (isLetter(text.charAt(i))) {
                    while (j < text.length() && isLetter(text.charAt(j))) {
                        j++;
                    }
                } else if (isDigit(text.charAt(i))) {
                    while (j < text.length() && isDigit(text.charAt(j))) {
                        j++;
                    }
                }
                words.add(text.substring(i, j));
                begins.add(i);
                i = j;
            }
            words.add("");
            begins.add(text.length());
        }

        static boolean isLetter(char c) {
            return c >= 'a' && c <= 'z';
        }

        static boolean isDigit(char c) {
            return c >= '0' && c <= '9';
        }

        String peek() {
            return words.get(next);
        }

        Wrong wrong() {
            return new Wrong(begins.get(next));
        }

        boolean have(String word) {
            if (peek().equals(word)) {
                next++;
                return true;
            }
            return false;
        }

        void need(String word) {
            if (!have(word)) {
                throw wrong();
            }
        }

        boolean isNumber() {
            return !peek().isEmpty() && isDigit(peek().charAt(0));
        }

        int number(int least, int most) {
            if (!isNumber() || peek().length() > 3) {
                throw wrong();
            }
            int n = Integer.parseInt(peek());
            if (n < least || n > most) {
                throw wrong();
            }
            next++;
            return n;
        }
    }

    int station() {
        String text = tape;
        tape = "";
        All draft = all.copy();
        try {
            readStation(new Tokens(text), draft);
        } catch (Wrong w) {
            wrongAt = w.at;
            throw new IllegalArgumentException();
        }
        wrongAt = NONE;
        if (all.texts == 12) {
            throw new UnsupportedOperationException();
        }
        draft.texts++;
        all = draft;
        acts.clear();
        return all.texts;
    }

    private static void readStation(Tokens t, All a) {
        if (t.peek().isEmpty()) {
            return;
        }
        int lines = 0;
        do {
            if (++lines > 14) {
                throw t.wrong();
            }
            readStationLine(t, a);
        } while (t.have(";"));
        t.need("");
    }

    private static void readStationLine(Tokens t, All a) {
        switch (t.peek()) {
            case "thing" -> {
                if (a.things.size() == 8) {
                    throw t.wrong();
                }
                t.next++;
                Thing th = new Thing();
                t.need("at");
                th.at = t.number(0, 15);
                th.first = t.have("so");
                if (t.have("worth")) {
                    th.worth = t.number(0, 99);
                }
                a.things.add(th);
            }
            case "makes", "hinders" -> {
                boolean makes = t.peek().equals("makes");
                t.next++;
                int x = t.number(0, a.things.size() - 1);
                Wrong second = t.wrong();
                int y = t.number(0, a.things.size() - 1);
                if (a.things.get(y).at <= a.things.get(x).at) {
                    throw second;
                }
                a.things.get(x).makes.remove(y);
                a.things.get(x).hinders.remove(y);
                (makes ? a.things.get(x).makes : a.things.get(x).hinders).add(y);
            }
            case "goer" -> readGoerLine(t, a);
            case "shuns" -> {
                t.next++;
                int x = t.number(0, a.goers.size() - 1);
                Wrong second = t.wrong();
                int y = t.number(0, a.goers.size() - 1);
                if (x == y) {
                    throw second;
                }
                a.goers.get(x).shuns.add(y);
                a.goers.get(y).shuns.add(x);
            }
            case "train" -> readTrainLine(t, a);
            case "day" -> {
                t.next++;
                a.day = t.number(0, 999);
            }
            default -> throw t.wrong();
        }
    }

    private static void readGoerLine(Tokens t, All a) {
        if (a.goers.size() == 6) {
            throw t.wrong();
        }
        t.next++;
        Goer g = new Goer();
        t.need("to");
        g.wish = t.number(0, 15);
        t.need("money");
        g.money = t.number(0, 999);
        if (t.have("nerve")) {
            g.nerve = t.number(0, 100);
        }
        if (t.have("does")) {
            g.deed = t.number(0, a.things.size() - 1);
            g.makes = true;
        } else if (t.have("undoes")) {
            g.deed = t.number(0, a.things.size() - 1);
        }
        if (t.have("born")) {
            g.born = t.number(0, a.things.size() - 1);
        }
        a.goers.add(g);
    }

    private static void readTrainLine(Tokens t, All a) {
        if (a.trains.size() == 5) {
            throw t.wrong();
        }
        t.next++;
        Train tr = new Train();
        t.need("seats");
        tr.seats = t.number(1, 6);
        t.need("stops");
        if (t.peek().isEmpty() || !t.peek().matches("[a-p]+")) {
            throw t.wrong();
        }
        for (char c : t.peek().toCharArray()) {
            if ((tr.stops & 1 << c - 'a') != 0) {
                throw t.wrong();
            }
            tr.stops |= 1 << c - 'a';
        }
        t.next++;
        a.trains.add(tr);
    }

    int law() {
        String text = tape;
        tape = "";
        int lines;
        try {
            lines = readLaw(new Tokens(text), all, NONE, NONE, new int[3]);
        } catch (Wrong w) {
            wrongAt = w.at;
            throw new IllegalArgumentException();
        }
        wrongAt = NONE;
        all.law = text;
        acts.clear();
        return lines;
    }

    /** Reads it, and sums up cost, fear, bars of a GOER and a TRAIN as it goes; of NONE it just reads. */
    private static int readLaw(Tokens t, All a, int goer, int train, int[] sums) {
        if (t.peek().isEmpty()) {
            return 0;
        }
        int lines = 0;
        do {
            if (++lines > 12) {
                throw t.wrong();
            }
            int kind = List.of("cost", "fear", "bar").indexOf(t.peek());
            if (kind < 0) {
                throw t.wrong();
            }
            t.next++;
            int n = kind == 2 ? 1 : t.number(0, 200);
            if (!t.have("if") || readC(t, a, goer, train, 0)) {
                sums[kind] += n;
            }
        } while (t.have(";"));
        t.need("");
        return lines;
    }

    private static boolean readC(Tokens t, All a, int g, int tr, int deep) {
        boolean is = readAll(t, a, g, tr, deep);
        while (t.have("or")) {
            is |= readAll(t, a, g, tr, deep);
        }
        return is;
    }

    private static boolean readAll(Tokens t, All a, int g, int tr, int deep) {
        boolean is = readAtom(t, a, g, tr, deep);
        while (t.have("and")) {
            is &= readAtom(t, a, g, tr, deep);
        }
        return is;
    }

    private static boolean readAtom(Tokens t, All a, int g, int tr, int deep) {
        if ((t.peek().equals("not") || t.peek().equals("(")) && deep == 6) {
            throw t.wrong();
        }
        if (t.have("not")) {
            return !readAtom(t, a, g, tr, deep + 1);
        }
        if (t.have("(")) {
            boolean is = readC(t, a, g, tr, deep + 1);
            t.need(")");
            return is;
        }
        boolean told = g != NONE;
        if (t.have("born")) {
            return told && a.goers.get(g).born != NONE;
        }
        if (t.have("does")) {
            return told && a.goers.get(g).deed != NONE;
        }
        if (t.have("full")) {
            return told && goneBy(a, tr).size() == a.trains.get(tr).seats;
        }
        int left = readSum(t, a, g, tr);
        if (t.have("<")) {
            return left < readSum(t, a, g, tr);
        }
        t.need(">");
        return left > readSum(t, a, g, tr);
    }

    private static int readSum(Tokens t, All a, int g, int tr) {
        int sum = readPart(t, a, g, tr);
        while (t.have("+")) {
            sum += readPart(t, a, g, tr);
        }
        return sum;
    }

    private static int readPart(Tokens t, All a, int g, int tr) {
        if (t.isNumber()) {
            return t.number(0, 999);
        }
        int which = List.of("goer", "wish", "money", "nerve", "train", "gone", "day").indexOf(t.peek());
        if (which < 0) {
            throw t.wrong();
        }
        t.next++;
        if (g == NONE) {
            return 0;
        }
        Goer goer = a.goers.get(g);
        return switch (which) {
            case 0 -> g;
            case 1 -> goer.wish;
            case 2 -> goer.money;
            case 3 -> goer.nerve;
            case 4 -> tr;
            case 5 -> goneBy(a, tr).size();
            default -> a.day % 100;
        };
    }

    int fault() {
        return wrongAt;
    }

    // ---- terms ----

    private static List<Integer> goneBy(All a, int train) {
        List<Integer> list = new ArrayList<>();
        for (int g = 0; g < a.goers.size(); g++) {
            if (a.goers.get(g).by == train) {
                list.add(g);
            }
        }
        return list;
    }

    private static int goneBits(All a) {
        int bits = 0;
        for (int g = 0; g < a.goers.size(); g++) {
            if (a.goers.get(g).by != NONE) {
                bits |= 1 << g;
            }
        }
        return bits;
    }

    private static int[] lawOf(All a, int goer, int train) {
        int[] sums = new int[3];
        if (a.law != null) {
            readLaw(new Tokens(a.law), a, goer, train, sums);
        }
        sums[0] += 10;
        return sums;
    }

    private static boolean can(All a, int g, int tr) {
        Goer goer = a.goers.get(g);
        Train train = a.trains.get(tr);
        int[] law = lawOf(a, g, tr);
        boolean meets = false;
        for (int other : goneBy(a, tr)) {
            meets |= goer.shuns.contains(other);
        }
        return goer.by == NONE && (train.stops & 1 << goer.wish) != 0 && goneBy(a, tr).size() < train.seats
                && law[0] <= goer.money && law[2] == 0 && !meets;
    }

    private static int firstTrain(All a, int g) {
        for (int tr = 0; tr < a.trains.size(); tr++) {
            if (can(a, g, tr)) {
                return tr;
            }
        }
        return NONE;
    }

    private static int worldOf(All a, int set) {
        int so = 0;
        for (int stop = 0; stop < 16; stop++) {
            for (int t = 0; t < a.things.size(); t++) {
                if (a.things.get(t).at != stop) {
                    continue;
                }
                boolean is = a.things.get(t).first;
                boolean hindered = false;
                for (int u = 0; u < a.things.size(); u++) {
                    if ((so & 1 << u) != 0) {
                        is |= a.things.get(u).makes.contains(t);
                        hindered |= a.things.get(u).hinders.contains(t);
                    }
                }
                is &= !hindered;
                for (int g = 0; g < a.goers.size(); g++) {
                    Goer goer = a.goers.get(g);
                    if ((set & 1 << g) != 0 && goer.wish <= stop && goer.deed == t) {
                        is = goer.makes;
                    }
                }
                if (is) {
                    so |= 1 << t;
                }
            }
        }
        return so;
    }

    private static boolean agreesIf(All a, int set, int gone) {
        if ((set & gone) != set) {
            return false;
        }
        int so = worldOf(a, set);
        for (int g = 0; g < a.goers.size(); g++) {
            int born = a.goers.get(g).born;
            if ((set & 1 << g) != 0 && born != NONE && (so & 1 << born) == 0) {
                return false;
            }
            if ((gone & 1 << g) != 0 && (set & 1 << g) == 0 && (born == NONE || (so & 1 << born) != 0)) {
                return false;
            }
        }
        return true;
    }

    /** All sets, the fewest first, of one size the least first. */
    private static List<Integer> setsBySize(int within) {
        List<Integer> sets = new ArrayList<>();
        for (int size = 0; size <= 6; size++) {
            for (int set = 0; set < 64; set++) {
                if (Integer.bitCount(set) == size && (set & within) == set) {
                    sets.add(set);
                }
            }
        }
        return sets;
    }

    private static int pastIf(All a, int gone) {
        for (int set : setsBySize(gone)) {
            if (agreesIf(a, set, gone)) {
                return set;
            }
        }
        return NONE;
    }

    private static int nowIf(All a, int gone) {
        int past = pastIf(a, gone);
        return worldOf(a, past == NONE ? 0 : past);
    }

    private static int agreeIf(All a, int gone) {
        int n = 0;
        for (int set = 0; set < 64; set++) {
            if (agreesIf(a, set, gone)) {
                n++;
            }
        }
        return n;
    }

    private int everyone() {
        return (1 << all.goers.size()) - 1;
    }

    private static int bits(Set<Integer> set) {
        int b = 0;
        for (int i : set) {
            b |= 1 << i;
        }
        return b;
    }

    private static int worthOf(All a, int set) {
        int sum = 0;
        for (int t = 0; t < a.things.size(); t++) {
            if ((set & 1 << t) != 0) {
                sum += a.things.get(t).worth;
            }
        }
        return sum;
    }

    // ---- what calls need ----

    private void hasStop(int s) {
        if (s < 0 || s > 15) {
            throw new IndexOutOfBoundsException();
        }
    }

    private void hasThing(int t) {
        if (t < 0 || t >= all.things.size()) {
            throw new IndexOutOfBoundsException();
        }
    }

    private void hasGoer(int g) {
        if (g < 0 || g >= all.goers.size()) {
            throw new IndexOutOfBoundsException();
        }
    }

    private void hasTrain(int t) {
        if (t < 0 || t >= all.trains.size()) {
            throw new IndexOutOfBoundsException();
        }
    }

    private static void in(int n, int least, int most) {
        if (n < least || n > most) {
            throw new IllegalArgumentException();
        }
    }

    private void act() {
        acts.add(all.copy());
        if (acts.size() > 12) {
            acts.remove(0);
        }
    }

    // ---- the face ----

    int thing(int t, int what) {
        hasThing(t);
        Thing th = all.things.get(t);
        switch (what) {
            case 0: return th.at;
            case 1: return th.first ? 1 : 0;
            case 2: return th.worth;
            case 3: return bits(th.makes);
            case 4: return bits(th.hinders);
            case 5: return now() >> t & 1;
            case 6: return line(t);
            case 7:
                int latest = NONE;
                for (int s = 0; s <= th.at; s++) {
                    for (Train tr : all.trains) {
                        if ((tr.stops & 1 << s) != 0) {
                            latest = s;
                        }
                    }
                }
                return latest;
            default: throw new NoSuchElementException();
        }
    }

    private int line(int t) {
        int most = 0;
        for (int u = 0; u < all.things.size(); u++) {
            if (all.things.get(u).makes.contains(t) || all.things.get(u).hinders.contains(t)) {
                most = Math.max(most, line(u));
            }
        }
        return most + 1;
    }

    int goer(int g, int what) {
        hasGoer(g);
        Goer goer = all.goers.get(g);
        switch (what) {
            case 0: return goer.wish;
            case 1: return goer.deed;
            case 2: return goer.deed != NONE && goer.makes ? 1 : 0;
            case 3: return goer.born;
            case 4: return goer.money;
            case 5: return goer.nerve;
            case 6: return bits(goer.shuns);
            case 7: return goer.by == NONE ? 0 : 1;
            case 8: return goer.by;
            case 9: return firstTrain(all, g);
            case 10: return otherwise(g) ^ now();
            default: throw new NoSuchElementException();
        }
    }

    int train(int t, int what) {
        hasTrain(t);
        switch (what) {
            case 0: return all.trains.get(t).stops;
            case 1: return all.trains.get(t).seats;
            case 2: return goneBy(all, t).size();
            case 3:
                int gone = Integer.bitCount(gone());
                return gone == 0 ? 0 : goneBy(all, t).size() * 100 / gone;
            default: throw new NoSuchElementException();
        }
    }

    int cost(int g, int t) {
        hasGoer(g);
        hasTrain(t);
        return lawOf(all, g, t)[0];
    }

    int fear(int g, int t) {
        hasGoer(g);
        hasTrain(t);
        return lawOf(all, g, t)[1];
    }

    boolean may(int g, int t) {
        hasGoer(g);
        hasTrain(t);
        return can(all, g, t);
    }

    private static void go(All a, int g, int t) {
        int cost = lawOf(a, g, t)[0];
        a.goers.get(g).by = t;
        a.goers.get(g).money -= cost;
        row(a, new int[] {a.day, g, t, cost});
    }

    private static void row(All a, int[] row) {
        a.log.add(row);
        if (a.log.size() > 60) {
            a.log.remove(0);
        }
    }

    private static void dayMore(All a, boolean draws) {
        for (int g = 0; g < a.goers.size(); g++) {
            if (a.goers.get(g).by != NONE) {
                continue;
            }
            int draw = 0;
            if (draws) {
                a.seed = (int) (1103515245L * a.seed + 12345L);
                draw = (a.seed & 0x7fffffff) / 65536 % 100;
            }
            int t = firstTrain(a, g);
            if (t != NONE && (!draws || draw < a.goers.get(g).nerve - lawOf(a, g, t)[1])) {
                go(a, g, t);
            }
        }
        if (a.day < 9999) {
            a.day++;
        }
    }

    int days(int n) {
        in(n, 1, 60);
        act();
        int before = Integer.bitCount(gone());
        for (int i = 0; i < n; i++) {
            dayMore(all, true);
        }
        return Integer.bitCount(gone()) - before;
    }

    int sell(int g, int t) {
        hasGoer(g);
        hasTrain(t);
        if (!can(all, g, t)) {
            throw new IllegalStateException();
        }
        act();
        go(all, g, t);
        return all.log.get(all.log.size() - 1)[3];
    }

    int pay(int g, int n) {
        hasGoer(g);
        in(n, 1, 999);
        act();
        return all.goers.get(g).money = Math.min(999, all.goers.get(g).money + n);
    }

    int nerve(int g, int n) {
        hasGoer(g);
        in(n, 0, 100);
        act();
        int was = all.goers.get(g).nerve;
        all.goers.get(g).nerve = n;
        return was;
    }

    private void notGone(int g) {
        if (all.goers.get(g).by != NONE) {
            throw new IllegalStateException();
        }
    }

    int wish(int g, int s) {
        hasGoer(g);
        hasStop(s);
        notGone(g);
        act();
        int was = all.goers.get(g).wish;
        all.goers.get(g).wish = s;
        return was;
    }

    int deed(int g, int t, boolean makes) {
        hasGoer(g);
        if (t != NONE) {
            hasThing(t);
        }
        notGone(g);
        act();
        int was = all.goers.get(g).deed;
        all.goers.get(g).deed = t;
        all.goers.get(g).makes = makes;
        return was;
    }

    boolean quarrel(int g, int o, boolean is) {
        hasGoer(g);
        hasGoer(o);
        if (g == o) {
            throw new IllegalArgumentException();
        }
        act();
        Set<Integer> his = all.goers.get(g).shuns;
        Set<Integer> others = all.goers.get(o).shuns;
        if (is) {
            others.add(g);
            return his.add(o);
        }
        others.remove(g);
        return his.remove(o);
    }

    int stops(int t, int stops) {
        hasTrain(t);
        if ((stops & 0xffff) == 0) {
            throw new IllegalArgumentException();
        }
        act();
        int was = all.trains.get(t).stops;
        all.trains.get(t).stops = stops & 0xffff;
        return was;
    }

    int recall(int g) {
        hasGoer(g);
        int was = all.goers.get(g).by;
        if (was == NONE) {
            throw new IllegalStateException();
        }
        act();
        all.goers.get(g).by = NONE;
        row(all, new int[] {all.day, g, was, -1});
        return was;
    }

    int world(int set) {
        return worldOf(all, set & everyone());
    }

    boolean agrees(int set) {
        return agreesIf(all, set & everyone(), gone());
    }

    int agree() {
        return agreeIf(all, gone());
    }

    int past() {
        return pastIf(all, gone());
    }

    int now() {
        return nowIf(all, gone());
    }

    int ring() {
        for (int set : setsBySize(gone())) {
            if (agreeIf(all, set) == 0) {
                return set;
            }
        }
        return NONE;
    }

    int otherwise(int g) {
        hasGoer(g);
        return nowIf(all, gone() ^ 1 << g);
    }

    int heavy() {
        int best = NONE;
        for (int g = 0; g < all.goers.size(); g++) {
            if (best == NONE || worthOf(all, goer(g, 10)) > worthOf(all, goer(best, 10))) {
                best = g;
            }
        }
        return best;
    }

    private List<int[]> told() {
        String text = tape;
        tape = "";
        List<int[]> rows = new ArrayList<>();
        if (text.length() > 40 || text.length() % 2 != 0) {
            throw new IllegalArgumentException();
        }
        for (int i = 0; i < text.length(); i += 2) {
            if (text.charAt(i) >= all.things.size() || text.charAt(i + 1) > 1) {
                throw new IllegalArgumentException();
            }
            rows.add(new int[] {text.charAt(i), text.charAt(i + 1)});
        }
        return rows;
    }

    private static boolean hold(List<int[]> rows, int so) {
        for (int[] row : rows) {
            if ((so >> row[0] & 1) != row[1]) {
                return false;
            }
        }
        return true;
    }

    int send() {
        List<int[]> rows = told();
        for (int set : setsBySize(everyone() & ~gone())) {
            int gone = gone() | set;
            if (pastIf(all, gone) != NONE && hold(rows, nowIf(all, gone))) {
                return set;
            }
        }
        return NONE;
    }

    private List<Integer> fitting() {
        List<int[]> rows = told();
        List<Integer> sets = new ArrayList<>();
        for (int set = 0; set <= everyone(); set++) {
            int so = worldOf(all, set);
            boolean fits = hold(rows, so);
            for (int g = 0; g < all.goers.size(); g++) {
                int born = all.goers.get(g).born;
                fits &= (set & 1 << g) == 0 || born == NONE || (so & 1 << born) != 0;
            }
            if (fits) {
                sets.add(set);
            }
        }
        return sets;
    }

    int who(boolean least) {
        List<Integer> sets = fitting();
        return !least ? sets.size() : sets.isEmpty() ? NONE : sets.get(0);
    }

    int look() {
        List<Integer> sets = fitting();
        int best = NONE;
        int least = 1000;
        for (int t = 0; t < all.things.size() && sets.size() >= 2; t++) {
            int so = 0;
            for (int set : sets) {
                so += worldOf(all, set) >> t & 1;
            }
            int greater = Math.max(so, sets.size() - so);
            if (greater < least) {
                least = greater;
                best = t;
            }
        }
        return best;
    }

    int hangs(int t) {
        hasThing(t);
        All other = all.copy();
        other.things.get(t).first = !other.things.get(t).first;
        return nowIf(other, goneBits(other)) ^ now();
    }

    int key() {
        int best = NONE;
        for (int t = 0; t < all.things.size(); t++) {
            if (best == NONE || Integer.bitCount(hangs(t)) > Integer.bitCount(hangs(best))) {
                best = t;
            }
        }
        return best;
    }

    int loose() {
        int set = 0;
        for (int t = 0; t < all.things.size(); t++) {
            Set<Integer> tied = new HashSet<>(all.things.get(t).makes);
            tied.addAll(all.things.get(t).hinders);
            for (int u = 0; u < all.things.size(); u++) {
                if (all.things.get(u).makes.contains(t) || all.things.get(u).hinders.contains(t)) {
                    tied.add(u);
                }
            }
            if (tied.isEmpty()) {
                set |= 1 << t;
            }
        }
        return set;
    }

    boolean kills(int g, int o) {
        hasGoer(g);
        hasGoer(o);
        if (g == o) {
            throw new IllegalArgumentException();
        }
        int born = all.goers.get(o).born;
        return born != NONE && (worldOf(all, 1 << g) & 1 << born) == 0;
    }

    /** All ways in their order; NONE counts as the TRAIN behind all. */
    private int[] firstBestWay(int set, int[] way, int g, int[] best) {
        if (g == all.goers.size()) {
            if (best == null || seated(way) > seated(best)) {
                return way.clone();
            }
            return best;
        }
        if ((set & 1 << g) != 0) {
            for (int t = 0; t < all.trains.size(); t++) {
                if (fitsIn(way, g, t)) {
                    way[g] = t;
                    best = firstBestWay(set, way, g + 1, best);
                }
            }
        }
        way[g] = NONE;
        return firstBestWay(set, way, g + 1, best);
    }

    private boolean fitsIn(int[] way, int g, int t) {
        int others = 0;
        for (int o = 0; o < g; o++) {
            if (way[o] == t) {
                others++;
                if (all.goers.get(g).shuns.contains(o)) {
                    return false;
                }
            }
        }
        return others < all.trains.get(t).seats && (all.trains.get(t).stops & 1 << all.goers.get(g).wish) != 0;
    }

    private static int seated(int[] way) {
        int n = 0;
        for (int t : way) {
            if (t != NONE) {
                n++;
            }
        }
        return n;
    }

    int colours(int g) {
        if (g != NONE) {
            hasGoer(g);
        }
        int[] way = firstBestWay(everyone() & ~gone(), new int[all.goers.size()], 0, null);
        return g == NONE ? seated(way) : way[g];
    }

    int clash() {
        for (int set : setsBySize(everyone() & ~gone())) {
            if (set != 0 && seated(firstBestWay(set, new int[all.goers.size()], 0, null)) < Integer.bitCount(set)) {
                return set;
            }
        }
        return NONE;
    }

    int price(int s, boolean earns) {
        hasStop(s);
        int best = 0;
        int most = 0;
        for (int p = 0; p <= 999; p++) {
            int sum = 0;
            for (Goer g : all.goers) {
                if (g.by == NONE && g.wish == s && g.money >= p) {
                    sum += p;
                }
            }
            if (sum > most) {
                most = sum;
                best = p;
            }
        }
        return earns ? most : best;
    }

    int dearest() {
        int best = 0;
        for (int s = 1; s < 16; s++) {
            if (price(s, true) > price(best, true)) {
                best = s;
            }
        }
        return best;
    }

    int crowd(int s) {
        hasStop(s);
        int set = 0;
        for (int g = 0; g < all.goers.size(); g++) {
            if (all.goers.get(g).wish == s) {
                set |= 1 << g;
            }
        }
        return set;
    }

    private static final java.util.Map<Integer, Integer> ASKED = new java.util.HashMap<>();

    private static int fewest(int set) {
        if (Integer.bitCount(set) <= 1) {
            return 0;
        }
        Integer known = ASKED.get(set);
        if (known != null) {
            return known;
        }
        int best = 99;
        for (int s = 0; s <= 14; s++) {
            int upTo = set & (1 << s + 1) - 1;
            int behind = set & ~upTo;
            if (upTo != 0 && behind != 0) {
                best = Math.min(best, 1 + Math.max(fewest(upTo), fewest(behind)));
            }
        }
        ASKED.put(set, best);
        return best;
    }

    int asks(int stops, boolean first) {
        int set = stops & 0xffff;
        int n = fewest(set);
        if (!first) {
            return n;
        }
        for (int s = 0; s <= 14 && n > 0; s++) {
            int upTo = set & (1 << s + 1) - 1;
            if (1 + Math.max(fewest(upTo), fewest(set & ~upTo)) == n) {
                return s;
            }
        }
        return NONE;
    }

    private static final int[][] PICKED = new int[11][];

    private static int[] picked(int n) {
        if (PICKED[n] == null) {
            PICKED[n] = new int[n];
            orders(new int[n], 0, 0, PICKED[n]);
        }
        return PICKED[n];
    }

    private static void orders(int[] order, int done, int used, int[] picked) {
        int n = order.length;
        if (done == n) {
            for (int r = 0; r < n; r++) {
                int best = NONE;
                for (int i = 0; i < n; i++) {
                    if (order[i] > best) {
                        best = order[i];
                        if (i >= r) {
                            if (best == n - 1) {
                                picked[r]++;
                            }
                            break;
                        }
                    }
                }
            }
            return;
        }
        for (int x = 0; x < n; x++) {
            if ((used & 1 << x) == 0) {
                order[done] = x;
                orders(order, done + 1, used | 1 << x, picked);
            }
        }
    }

    int pick(int n, boolean many) {
        in(n, 1, 10);
        int[] p = picked(n);
        int best = 0;
        for (int r = 1; r < n; r++) {
            if (p[r] > p[best]) {
                best = r;
            }
        }
        return many ? p[best] : best;
    }

    /** All ways to pair, unlike WISHES too, in their order. */
    private int[] firstBestPairs(int[] with, int g, int[] best) {
        int n = all.goers.size();
        if (g == n) {
            return best == null || liked(with) > liked(best) ? with.clone() : best;
        }
        if (with[g] != NONE) {
            return firstBestPairs(with, g + 1, best);
        }
        best = firstBestPairs(with, g + 1, best);
        for (int o = g + 1; o < n && all.goers.get(g).by == NONE; o++) {
            if (with[o] == NONE && all.goers.get(o).by == NONE && !all.goers.get(g).shuns.contains(o)) {
                with[g] = o;
                with[o] = g;
                best = firstBestPairs(with, g + 1, best);
                with[g] = NONE;
                with[o] = NONE;
            }
        }
        return best;
    }

    private int liked(int[] with) {
        int n = 0;
        for (int g = 0; g < with.length; g++) {
            if (with[g] > g && all.goers.get(g).wish == all.goers.get(with[g]).wish) {
                n++;
            }
        }
        return n;
    }

    int pairs(int g) {
        if (g != NONE) {
            hasGoer(g);
        }
        int[] with = new int[all.goers.size()];
        Arrays.fill(with, NONE);
        int[] best = firstBestPairs(with, 0, null);
        return g == NONE ? liked(best) : best[g];
    }

    int rests(int g) {
        hasGoer(g);
        int[] his = {all.goers.get(g).nerve / 10, -2, 3, 0};
        int[] clerks = {-1, 1, -2, 0};
        int set = 0;
        for (int c = 0; c < 4; c++) {
            if (his[c ^ 2] <= his[c] && clerks[c ^ 1] <= clerks[c]) {
                set |= 1 << c;
            }
        }
        return set;
    }

    int odds(int g, int n) {
        hasGoer(g);
        in(n, 0, 4);
        int t = firstTrain(all, g);
        int p = t == NONE ? 0 : all.goers.get(g).nerve - lawOf(all, g, t)[1];
        p = p < 0 ? 0 : p;
        int x = 10000;
        for (int i = 0; i < n; i++) {
            x = (100 - p) * x / 100;
        }
        return x;
    }

    int brave() {
        int best = NONE;
        for (int g = 0; g < all.goers.size(); g++) {
            boolean here = all.goers.get(g).by == NONE;
            if (here && (best == NONE || all.goers.get(g).nerve > all.goers.get(best).nerve)) {
                best = g;
            }
        }
        return best;
    }

    int gone() {
        return goneBits(all);
    }

    int unborn() {
        int set = 0;
        int now = now();
        for (int g = 0; g < all.goers.size(); g++) {
            int born = all.goers.get(g).born;
            if (born != NONE && (now & 1 << born) == 0) {
                set |= 1 << g;
            }
        }
        return set;
    }

    int twins() {
        int n = 0;
        for (Goer a : all.goers) {
            for (Goer b : all.goers) {
                if (a != b && a.wish == b.wish && a.deed == b.deed) {
                    n++;
                }
            }
        }
        return n / 2;
    }

    int worth() {
        return worthOf(all, now());
    }

    int empty() {
        int set = 0;
        for (int t = 0; t < all.trains.size(); t++) {
            if (goneBy(all, t).isEmpty()) {
                set |= 1 << t;
            }
        }
        return set;
    }

    int never() {
        int set = 0xffff;
        for (Train t : all.trains) {
            set &= ~t.stops;
        }
        return set;
    }

    private All after(int n, boolean draws, int seed) {
        All a = all.copy();
        a.seed = seed;
        for (int i = 0; i < n; i++) {
            dayMore(a, draws);
        }
        return a;
    }

    int ahead(int g, int n) {
        hasGoer(g);
        in(n, 0, 60);
        return after(n, false, 0).goers.get(g).by;
    }

    int trial(int n, boolean agree) {
        in(n, 0, 60);
        All a = after(n, true, all.seed);
        return agree ? agreeIf(a, goneBits(a)) : goneBits(a);
    }

    int span(int n, boolean most) {
        in(n, 0, 60);
        List<Integer> counts = new ArrayList<>();
        for (int seed = 1; seed <= 6; seed++) {
            counts.add(Integer.bitCount(goneBits(after(n, true, seed))));
        }
        return most ? java.util.Collections.max(counts) : java.util.Collections.min(counts);
    }

    int led(int g, boolean day) {
        hasGoer(g);
        int n = 0;
        int latest = NONE;
        for (int[] row : all.log) {
            if (row[1] == g) {
                n++;
                latest = row[0];
            }
        }
        return day ? latest : n;
    }

    int log(int ago, int what) {
        if (what < 0 || what > 3) {
            throw new NoSuchElementException();
        }
        return ago < 0 || ago >= all.log.size() ? -2 : all.log.get(all.log.size() - 1 - ago)[what];
    }

    int seed(int n) {
        int was = all.seed;
        all.seed = n;
        return was;
    }

    boolean undo() {
        if (acts.isEmpty()) {
            return false;
        }
        all = acts.remove(acts.size() - 1);
        return true;
    }

    void image() {
        kept = all.copy();
    }

    boolean back() {
        if (kept == null) {
            return false;
        }
        all = kept.copy();
        acts.clear();
        return true;
    }

    int count(int what) {
        switch (what) {
            case 0: return all.things.size();
            case 1: return all.goers.size();
            case 2: return all.trains.size();
            case 3: return all.texts;
            case 4: return all.law == null ? NONE : readLaw(new Tokens(all.law), all, NONE, NONE, new int[3]);
            case 5: return all.day;
            case 6: return Integer.bitCount(gone());
            case 7: return all.goers.stream().mapToInt(g -> g.money).sum();
            case 8: return all.log.size();
            case 9: return acts.size();
            default: return NONE;
        }
    }
}
