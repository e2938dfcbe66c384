import java.util.Arrays;
import java.util.NoSuchElementException;

/** A station that sells singles to the past; ../shared/DOC.md says what each call does. */
public final class SinglesPast {
    public static final int NONE = -1;

    private static final int TAPE_MOST = 400;
    private static final int TEXTS_MOST = 12;
    private static final int STOP_COUNT = 16;
    private static final int EVERY_STOP = 0xFFFF;
    private static final int THINGS_MOST = 8;
    private static final int GOERS_MOST = 6;
    private static final int TRAINS_MOST = 5;
    private static final int SETS = 64;
    private static final int MONEY_MOST = 999;
    private static final int NERVE_MOST = 100;
    private static final int DAY_MOST = 9999;
    private static final int DAYS_MOST = 60;
    private static final int ODDS_DAYS_MOST = 4;
    private static final int COST_FIRST = 10;
    private static final int TOLD_BYTES_MOST = 40;
    private static final int PICK_MOST = 10;
    private static final int SPAN_SEEDS = 6;
    private static final int NO_ROW = -2;

    private final Tape tape;
    private int wrongAt;
    private final State state;
    private final State image;
    private boolean imageKept;
    // What may be tried and thrown away: texts that may be wrong, days that do not stay.
    private final State draft;
    private final Memory memory;
    private final LawText lawText;
    private final Worlds worlds;
    private boolean worldsFresh;
    private final Worlds otherWorlds;
    private final Seating seating;
    private final Pairing pairing;
    private int toldSo;
    private int toldNot;

    public SinglesPast() {
        tape = new Tape();
        wrongAt = NONE;
        state = new State();
        image = new State();
        draft = new State();
        memory = new Memory();
        lawText = new LawText();
        worlds = new Worlds();
        otherWorlds = new Worlds();
        seating = new Seating();
        pairing = new Pairing();
    }

    // ---- the tape and the texts ----

    public int feed(int a, int b, int c, int d, int e) {
        if (tape.length + 20 > TAPE_MOST) {
            return NONE;
        }
        tape.append(a);
        tape.append(b);
        tape.append(c);
        tape.append(d);
        tape.append(e);
        return tape.length;
    }

    public boolean end(int n) {
        if (n < 0 || n > tape.length) {
            return false;
        }
        tape.length = n;
        return true;
    }

    public int station() throws IllegalArgumentException, UnsupportedOperationException {
        draft.copyFrom(state);
        tape.open();
        closeText(StationText.read(tape, draft));
        if (state.texts >= TEXTS_MOST) {
            throw new UnsupportedOperationException("there are 12 texts");
        }
        draft.texts++;
        state.copyFrom(draft);
        forgetActs();
        return state.texts;
    }

    public int law() throws IllegalArgumentException {
        tape.open();
        closeText(lawText.read(tape));
        state.law = lawText.toLaw();
        forgetActs();
        return state.law.lines;
    }

    private void closeText(boolean right) {
        wrongAt = right ? NONE : tape.place;
        if (!right) {
            throw new IllegalArgumentException("the text is wrong");
        }
    }

    private void forgetActs() {
        memory.forget();
        worldsFresh = false;
    }

    public int fault() {
        return wrongAt;
    }

    // ---- what there is ----

    public int thing(int thing, int what) throws IndexOutOfBoundsException, NoSuchElementException {
        needThing(thing);
        switch (what) {
            case 0:
                return state.things.at[thing];
            case 1:
                return state.things.first >> thing & 1;
            case 2:
                return state.things.worth[thing];
            case 3:
                return state.things.makes[thing];
            case 4:
                return state.things.hinders[thing];
            case 5:
                return soNow() >> thing & 1;
            case 6:
                return state.things.lineOf(thing);
            case 7:
                return latestStop(thing);
            default:
                throw new NoSuchElementException("a THING has no such what");
        }
    }

    public int goer(int goer, int what) throws IndexOutOfBoundsException, NoSuchElementException {
        needGoer(goer);
        switch (what) {
            case 0:
                return state.wish[goer];
            case 1:
                return state.deed[goer];
            case 2:
                return state.makers >> goer & 1;
            case 3:
                return state.born[goer];
            case 4:
                return state.money[goer];
            case 5:
                return state.nerve[goer];
            case 6:
                return state.shuns[goer];
            case 7:
                return state.by[goer] != NONE ? 1 : 0;
            case 8:
                return state.by[goer];
            case 9:
                return state.trainOf(goer);
            case 10:
                return changesBy(goer);
            default:
                throw new NoSuchElementException("a GOER has no such what");
        }
    }

    public int train(int train, int what) throws IndexOutOfBoundsException, NoSuchElementException {
        needTrain(train);
        switch (what) {
            case 0:
                return state.halts[train];
            case 1:
                return state.seats[train];
            case 2:
                return Integer.bitCount(state.ridersOf(train));
            case 3:
                return shareOf(train);
            default:
                throw new NoSuchElementException("a TRAIN has no such what");
        }
    }

    private int latestStop(int thing) {
        int reached = state.everyHalt();
        for (int stop = state.things.at[thing]; stop >= 0; stop--) {
            if ((reached >> stop & 1) != 0) {
                return stop;
            }
        }
        return NONE;
    }

    private int shareOf(int train) {
        int all = Integer.bitCount(state.goneSet());
        return all > 0 ? 100 * Integer.bitCount(state.ridersOf(train)) / all : 0;
    }

    public int cost(int goer, int train) throws IndexOutOfBoundsException {
        needGoer(goer);
        needTrain(train);
        return state.costOf(goer, train);
    }

    public int fear(int goer, int train) throws IndexOutOfBoundsException {
        needGoer(goer);
        needTrain(train);
        return state.fearOf(goer, train);
    }

    public boolean may(int goer, int train) throws IndexOutOfBoundsException {
        needGoer(goer);
        needTrain(train);
        return state.canGo(goer, train);
    }

    // ---- acts ----

    public int days(int n) throws IllegalArgumentException {
        if (n < 1 || n > DAYS_MOST) {
            throw new IllegalArgumentException("DAYS are 1 to 60");
        }
        beginAct();
        return state.passDays(n, true);
    }

    public int sell(int goer, int train) throws IndexOutOfBoundsException, IllegalStateException {
        needGoer(goer);
        needTrain(train);
        if (!state.canGo(goer, train)) {
            throw new IllegalStateException("he CAN not go by it");
        }
        beginAct();
        return state.board(goer, train);
    }

    public int pay(int goer, int n) throws IndexOutOfBoundsException, IllegalArgumentException {
        needGoer(goer);
        if (n < 1 || n > MONEY_MOST) {
            throw new IllegalArgumentException("MONEY that is given is 1 to 999");
        }
        beginAct();
        state.money[goer] = Math.min(MONEY_MOST, state.money[goer] + n);
        return state.money[goer];
    }

    public int nerve(int goer, int n) throws IndexOutOfBoundsException, IllegalArgumentException {
        needGoer(goer);
        if (n < 0 || n > NERVE_MOST) {
            throw new IllegalArgumentException("NERVE is 0 to 100");
        }
        beginAct();
        int before = state.nerve[goer];
        state.nerve[goer] = n;
        return before;
    }

    public int wish(int goer, int stop) throws IndexOutOfBoundsException, IllegalStateException {
        needGoer(goer);
        needStop(stop);
        needNotGone(goer);
        beginAct();
        int before = state.wish[goer];
        state.wish[goer] = stop;
        return before;
    }

    public int deed(int goer, int thing, boolean makes) throws IndexOutOfBoundsException, IllegalStateException {
        needGoer(goer);
        if (thing != NONE) {
            needThing(thing);
        }
        needNotGone(goer);
        beginAct();
        int before = state.deed[goer];
        state.tellDeed(goer, thing, makes);
        return before;
    }

    public boolean quarrel(int goer, int other, boolean is) throws IndexOutOfBoundsException, IllegalArgumentException {
        needTwoGoers(goer, other);
        beginAct();
        boolean was = (state.shuns[goer] >> other & 1) != 0;
        state.tellShunning(goer, other, is);
        return was != is;
    }

    public int stops(int train, int stops) throws IndexOutOfBoundsException, IllegalArgumentException {
        needTrain(train);
        if ((stops & EVERY_STOP) == 0) {
            throw new IllegalArgumentException("a TRAIN has a STOP");
        }
        beginAct();
        int before = state.halts[train];
        state.halts[train] = stops & EVERY_STOP;
        return before;
    }

    public int recall(int goer) throws IndexOutOfBoundsException, IllegalStateException {
        needGoer(goer);
        if (state.by[goer] == NONE) {
            throw new IllegalStateException("he is not GONE");
        }
        beginAct();
        return state.callBack(goer);
    }

    private void beginAct() {
        memory.keep(state);
        worldsFresh = false;
    }

    // ---- what is so ----

    public int world(int set) {
        return freshWorlds().so[set & state.everyone()];
    }

    public boolean agrees(int set) {
        return freshWorlds().isAgreeing(set & state.everyone(), state.goneSet());
    }

    public int agree() {
        return freshWorlds().countAgreeing(state.goneSet());
    }

    public int past() {
        return freshWorlds().pastOf(state.goneSet());
    }

    public int now() {
        return soNow();
    }

    public int ring() {
        Worlds all = freshWorlds();
        int gone = state.goneSet();
        int best = NONE;
        for (int set = 1; set < SETS; set++) {
            boolean within = (set & ~gone) == 0;
            if (within && isFewer(set, best) && all.countAgreeing(set) == 0) {
                best = set;
            }
        }
        return best;
    }

    public int otherwise(int goer) throws IndexOutOfBoundsException {
        needGoer(goer);
        return freshWorlds().nowOf(state.goneSet() ^ 1 << goer);
    }

    public int heavy() {
        int best = NONE;
        int most = NONE;
        for (int goer = 0; goer < state.goers; goer++) {
            int weight = state.things.worthOf(changesBy(goer));
            if (weight > most) {
                most = weight;
                best = goer;
            }
        }
        return best;
    }

    private Worlds freshWorlds() {
        if (!worldsFresh) {
            worlds.fill(state, state.things.first, state.everyone());
            worldsFresh = true;
        }
        return worlds;
    }

    private int soNow() {
        return freshWorlds().nowOf(state.goneSet());
    }

    private int changesBy(int goer) {
        return freshWorlds().nowOf(state.goneSet() ^ 1 << goer) ^ soNow();
    }

    /** Sets are tried from the least on, so that of those of one size the least stays. */
    private static boolean isFewer(int set, int best) {
        return best == NONE || Integer.bitCount(set) < Integer.bitCount(best);
    }

    // ---- told rows ----

    public int send() throws IllegalArgumentException {
        readTold();
        Worlds all = freshWorlds();
        int gone = state.goneSet();
        int best = NONE;
        for (int set = 0; set < SETS; set++) {
            boolean within = (set & ~(state.everyone() & ~gone)) == 0;
            if (within && isFewer(set, best) && comesAbout(all, gone | set)) {
                best = set;
            }
        }
        return best;
    }

    public int who(boolean least) throws IllegalArgumentException {
        readTold();
        Worlds all = freshWorlds();
        int fitting = 0;
        for (int set = 0; set <= state.everyone(); set++) {
            if (fits(all, set)) {
                if (least) {
                    return set;
                }
                fitting++;
            }
        }
        return least ? NONE : fitting;
    }

    public int look() throws IllegalArgumentException {
        readTold();
        Worlds all = freshWorlds();
        int fitting = countFitting(all, NONE);
        if (fitting < 2) {
            return NONE;
        }
        int best = NONE;
        int leastPart = SETS + 1;
        for (int thing = 0; thing < state.things.count; thing++) {
            int part = countFitting(all, thing);
            int greater = Math.max(part, fitting - part);
            if (greater < leastPart) {
                leastPart = greater;
                best = thing;
            }
        }
        return best;
    }

    private void readTold() {
        int length = tape.length;
        tape.length = 0;
        toldSo = 0;
        toldNot = 0;
        boolean right = length <= TOLD_BYTES_MOST && length % 2 == 0;
        for (int i = 0; right && i + 1 < length; i += 2) {
            int thing = tape.bytes[i];
            int is = tape.bytes[i + 1];
            right = thing < state.things.count && is <= 1;
            if (is == 1) {
                toldSo |= 1 << thing;
            } else {
                toldNot |= 1 << thing;
            }
        }
        if (!right) {
            throw new IllegalArgumentException("the TAPE has no such rows");
        }
    }

    private boolean isTold(int so) {
        return (so & toldSo) == toldSo && (so & toldNot) == 0;
    }

    private boolean comesAbout(Worlds all, int gone) {
        int past = all.pastOf(gone);
        return past != NONE && isTold(all.so[past]);
    }

    private boolean fits(Worlds all, int set) {
        return (set & ~all.alive[set]) == 0 && isTold(all.so[set]);
    }

    /** How many sets fit in whose WORLD the THING is so; of NONE, how many at all. */
    private int countFitting(Worlds all, int thing) {
        int fitting = 0;
        for (int set = 0; set <= state.everyone(); set++) {
            boolean counts = thing == NONE || (all.so[set] >> thing & 1) != 0;
            if (counts && fits(all, set)) {
                fitting++;
            }
        }
        return fitting;
    }

    // ---- what hangs on what ----

    public int hangs(int thing) throws IndexOutOfBoundsException {
        needThing(thing);
        return hangingOn(thing);
    }

    public int key() {
        int best = NONE;
        int most = NONE;
        for (int thing = 0; thing < state.things.count; thing++) {
            int many = Integer.bitCount(hangingOn(thing));
            if (many > most) {
                most = many;
                best = thing;
            }
        }
        return best;
    }

    private int hangingOn(int thing) {
        int gone = state.goneSet();
        otherWorlds.fill(state, state.things.first ^ 1 << thing, gone);
        return otherWorlds.nowOf(gone) ^ soNow();
    }

    public int loose() {
        return state.things.looseSet();
    }

    public boolean kills(int goer, int other) throws IndexOutOfBoundsException, IllegalArgumentException {
        needTwoGoers(goer, other);
        return (freshWorlds().alive[1 << goer] >> other & 1) == 0;
    }

    // ---- trains by colours ----

    public int colours(int goer) throws IndexOutOfBoundsException {
        if (goer != NONE) {
            needGoer(goer);
        }
        int many = seating.seatMost(state, state.stayingSet());
        return goer == NONE ? many : seating.bestWay[goer];
    }

    public int clash() {
        int staying = state.stayingSet();
        int best = NONE;
        for (int set = 1; set < SETS; set++) {
            boolean within = (set & ~staying) == 0;
            if (within && isFewer(set, best) && !seating.canSeatAll(state, set)) {
                best = set;
            }
        }
        return best;
    }

    // ---- prices ----

    public int price(int stop, boolean earns) throws IndexOutOfBoundsException {
        needStop(stop);
        int best = bestPrice(stop);
        return earns ? earningsAt(stop, best) : best;
    }

    public int dearest() {
        int best = 0;
        int most = NONE;
        for (int stop = 0; stop < STOP_COUNT; stop++) {
            int earnings = earningsAt(stop, bestPrice(stop));
            if (earnings > most) {
                most = earnings;
                best = stop;
            }
        }
        return best;
    }

    /** Between two amounts of MONEY a greater price always earns more: only 0 and those amounts can be best. */
    private int bestPrice(int stop) {
        int best = 0;
        int most = 0;
        for (int goer = 0; goer < state.goers; goer++) {
            int price = state.money[goer];
            int earnings = earningsAt(stop, price);
            if (earnings > most || earnings == most && price < best) {
                most = earnings;
                best = price;
            }
        }
        return best;
    }

    private int earningsAt(int stop, int price) {
        int payers = 0;
        for (int goer = 0; goer < state.goers; goer++) {
            boolean wants = state.by[goer] == NONE && state.wish[goer] == stop;
            if (wants && state.money[goer] >= price) {
                payers++;
            }
        }
        return price * payers;
    }

    public int crowd(int stop) throws IndexOutOfBoundsException {
        needStop(stop);
        int set = 0;
        for (int goer = 0; goer < state.goers; goer++) {
            if (state.wish[goer] == stop) {
                set |= 1 << goer;
            }
        }
        return set;
    }

    // ---- questions and picks ----

    public int asks(int stops, boolean first) {
        int set = stops & EVERY_STOP;
        int fewest = questionsFor(Integer.bitCount(set));
        if (!first) {
            return fewest;
        }
        return fewest == 0 ? NONE : openingOf(set, 1 << fewest - 1);
    }

    /** Each question parts the STOPS in order, wherever one likes, so the greater part can always be halved. */
    private static int questionsFor(int many) {
        int questions = 0;
        for (int known = 1; known < many && known < STOP_COUNT; known *= 2) {
            questions++;
        }
        return questions;
    }

    private static int openingOf(int set, int partMost) {
        int all = Integer.bitCount(set);
        for (int stop = 0; stop < STOP_COUNT - 1; stop++) {
            int upTo = Integer.bitCount(set & (2 << stop) - 1);
            if (upTo <= partMost && all - upTo <= partMost) {
                return stop;
            }
        }
        return NONE;
    }

    public int pick(int n, boolean many) throws IllegalArgumentException {
        if (n < 1 || n > PICK_MOST) {
            throw new IllegalArgumentException("years to pick from are 1 to 10");
        }
        int best = 0;
        int most = NONE;
        for (int letBy = 0; letBy < n; letBy++) {
            int orders = ordersThatPickBest(n, letBy);
            if (orders > most) {
                most = orders;
                best = letBy;
            }
        }
        return many ? most : best;
    }

    /** The best one is taken at a place if the best of those ahead of it is among those let by. */
    private static int ordersThatPickBest(int n, int letBy) {
        int others = 1;
        for (int i = 2; i < n; i++) {
            others *= i;
        }
        if (letBy == 0) {
            return others;
        }
        int orders = 0;
        for (int ahead = Math.max(1, letBy); ahead < n; ahead++) {
            orders += others / ahead * letBy;
        }
        return orders;
    }

    public int pairs(int goer) throws IndexOutOfBoundsException {
        if (goer != NONE) {
            needGoer(goer);
        }
        int many = pairing.pairMost(state, state.stayingSet());
        return goer == NONE ? many : pairing.bestWay[goer];
    }

    public int rests(int goer) throws IndexOutOfBoundsException {
        needGoer(goer);
        int nerve = state.nerve[goer];
        int choices = 0;
        for (int his = 0; his < 2; his++) {
            for (int clerks = 0; clerks < 2; clerks++) {
                boolean heRests = manHas(1 - his, clerks, nerve) <= manHas(his, clerks, nerve);
                boolean clerkRests = clerkHas(his, 1 - clerks) <= clerkHas(his, clerks);
                if (heRests && clerkRests) {
                    choices |= 1 << 2 * his + clerks;
                }
            }
        }
        return choices;
    }

    private static int manHas(int his, int clerks, int nerve) {
        if (his == 0) {
            return clerks == 0 ? nerve / 10 : -2;
        }
        return clerks == 0 ? 3 : 0;
    }

    private static int clerkHas(int his, int clerks) {
        if (his == 0) {
            return clerks == 0 ? -1 : 1;
        }
        return clerks == 0 ? -2 : 0;
    }

    public int odds(int goer, int n) throws IndexOutOfBoundsException, IllegalArgumentException {
        needGoer(goer);
        if (n < 0 || n > ODDS_DAYS_MOST) {
            throw new IllegalArgumentException("DAYS of odds are 0 to 4");
        }
        int train = state.trainOf(goer);
        int dares = train == NONE ? 0 : Math.max(0, state.nerve[goer] - state.fearOf(goer, train));
        int stays = 10000;
        for (int day = 0; day < n; day++) {
            stays = stays * (100 - dares) / 100;
        }
        return stays;
    }

    // ---- those alike, shares ----

    public int brave() {
        int best = NONE;
        int most = NONE;
        for (int goer = 0; goer < state.goers; goer++) {
            if (state.by[goer] == NONE && state.nerve[goer] > most) {
                most = state.nerve[goer];
                best = goer;
            }
        }
        return best;
    }

    public int gone() {
        return state.goneSet();
    }

    public int unborn() {
        return state.everyone() & ~state.aliveIn(soNow());
    }

    public int twins() {
        int many = 0;
        for (int goer = 0; goer < state.goers; goer++) {
            for (int other = goer + 1; other < state.goers; other++) {
                if (state.wish[goer] == state.wish[other] && state.deed[goer] == state.deed[other]) {
                    many++;
                }
            }
        }
        return many;
    }

    public int worth() {
        return state.things.worthOf(soNow());
    }

    public int empty() {
        int set = 0;
        for (int train = 0; train < state.trains; train++) {
            if (state.ridersOf(train) == 0) {
                set |= 1 << train;
            }
        }
        return set;
    }

    public int never() {
        return EVERY_STOP & ~state.everyHalt();
    }

    // ---- days ahead ----

    public int ahead(int goer, int n) throws IndexOutOfBoundsException, IllegalArgumentException {
        needGoer(goer);
        needTrialDays(n);
        draft.copyFrom(state);
        draft.passDays(n, false);
        return draft.by[goer];
    }

    public int trial(int n, boolean agree) throws IllegalArgumentException {
        needTrialDays(n);
        draft.copyFrom(state);
        draft.passDays(n, true);
        int gone = draft.goneSet();
        // Days change neither WISHES nor DEEDS, so the WORLDS of now are those of then.
        return agree ? freshWorlds().countAgreeing(gone) : gone;
    }

    public int span(int n, boolean most) throws IllegalArgumentException {
        needTrialDays(n);
        int least = GOERS_MOST;
        int greatest = 0;
        for (int seed = 1; seed <= SPAN_SEEDS; seed++) {
            draft.copyFrom(state);
            draft.seed = seed;
            draft.passDays(n, true);
            int many = Integer.bitCount(draft.goneSet());
            least = Math.min(least, many);
            greatest = Math.max(greatest, many);
        }
        return most ? greatest : least;
    }

    // ---- the log, what is kept ----

    public int led(int goer, boolean day) throws IndexOutOfBoundsException {
        needGoer(goer);
        return day ? state.log.latestDayOf(goer) : state.log.countOf(goer);
    }

    public int log(int ago, int what) throws NoSuchElementException {
        if (what < 0 || what >= Log.WIDTH) {
            throw new NoSuchElementException("a row has no such what");
        }
        return state.log.entryOf(ago, what);
    }

    public int seed(int n) {
        int before = state.seed;
        state.seed = n;
        return before;
    }

    public boolean undo() {
        boolean was = memory.bringBack(state);
        worldsFresh = worldsFresh && !was;
        return was;
    }

    public void image() {
        image.copyFrom(state);
        imageKept = true;
    }

    public boolean back() {
        if (!imageKept) {
            return false;
        }
        state.copyFrom(image);
        forgetActs();
        return true;
    }

    public int count(int what) {
        switch (what) {
            case 0:
                return state.things.count;
            case 1:
                return state.goers;
            case 2:
                return state.trains;
            case 3:
                return state.texts;
            case 4:
                return state.law == null ? NONE : state.law.lines;
            case 5:
                return state.day;
            case 6:
                return Integer.bitCount(state.goneSet());
            case 7:
                return state.allMoney();
            case 8:
                return state.log.rows;
            case 9:
                return memory.kept;
            default:
                return NONE;
        }
    }

    // ---- what a call needs ----

    private static void needStop(int stop) {
        if (stop < 0 || stop >= STOP_COUNT) {
            throw new IndexOutOfBoundsException("there is no such STOP");
        }
    }

    private void needThing(int thing) {
        if (thing < 0 || thing >= state.things.count) {
            throw new IndexOutOfBoundsException("there is no such THING");
        }
    }

    private void needGoer(int goer) {
        if (goer < 0 || goer >= state.goers) {
            throw new IndexOutOfBoundsException("there is no such GOER");
        }
    }

    private void needTwoGoers(int goer, int other) {
        needGoer(goer);
        needGoer(other);
        if (goer == other) {
            throw new IllegalArgumentException("both are one");
        }
    }

    private void needTrain(int train) {
        if (train < 0 || train >= state.trains) {
            throw new IndexOutOfBoundsException("there is no such TRAIN");
        }
    }

    private void needNotGone(int goer) {
        if (state.by[goer] != NONE) {
            throw new IllegalStateException("he is GONE");
        }
    }

    private static void needTrialDays(int n) {
        if (n < 0 || n > DAYS_MOST) {
            throw new IllegalArgumentException("DAYS ahead are 0 to 60");
        }
    }

    /** THINGS, and which MAKE or HINDER which. */
    private static final class Things {
        int count;
        int first;
        final int[] at = new int[THINGS_MOST];
        final int[] worth = new int[THINGS_MOST];
        final int[] makes = new int[THINGS_MOST];
        final int[] hinders = new int[THINGS_MOST];

        void copyFrom(Things other) {
            count = other.count;
            first = other.first;
            System.arraycopy(other.at, 0, at, 0, THINGS_MOST);
            System.arraycopy(other.worth, 0, worth, 0, THINGS_MOST);
            System.arraycopy(other.makes, 0, makes, 0, THINGS_MOST);
            System.arraycopy(other.hinders, 0, hinders, 0, THINGS_MOST);
        }

        void add(int stop, boolean so, int value) {
            if (count >= THINGS_MOST) {
                return;
            }
            at[count] = stop;
            worth[count] = value;
            makes[count] = 0;
            hinders[count] = 0;
            int bit = 1 << count;
            first = so ? first | bit : first & ~bit;
            count++;
        }

        /** A later word about two goes before an earlier one, so one of both rows loses the other THING. */
        void tie(int thing, int other, boolean making) {
            int bit = 1 << other;
            makes[thing] = making ? makes[thing] | bit : makes[thing] & ~bit;
            hinders[thing] = making ? hinders[thing] & ~bit : hinders[thing] | bit;
        }

        int worthOf(int set) {
            int sum = 0;
            for (int thing = 0; thing < count; thing++) {
                if ((set >> thing & 1) != 0) {
                    sum += worth[thing];
                }
            }
            return sum;
        }

        int looseSet() {
            int tied = 0;
            for (int thing = 0; thing < count; thing++) {
                int others = makes[thing] | hinders[thing];
                if (others != 0) {
                    tied |= others | 1 << thing;
                }
            }
            return (1 << count) - 1 & ~tied;
        }

        /** Ties lead to later STOPS alone: STOP by STOP, all lines that end ahead are known. */
        int lineOf(int asked) {
            int[] longest = new int[THINGS_MOST];
            for (int stop = 0; stop <= at[asked]; stop++) {
                for (int thing = 0; thing < count; thing++) {
                    if (at[thing] == stop) {
                        longest[thing] = 1 + longestAhead(thing, longest);
                    }
                }
            }
            return longest[asked];
        }

        private int longestAhead(int thing, int[] longest) {
            int most = 0;
            for (int other = 0; other < count; other++) {
                if (((makes[other] | hinders[other]) >> thing & 1) != 0) {
                    most = Math.max(most, longest[other]);
                }
            }
            return most;
        }
    }

    /** The latest goings and callings back, the oldest first. */
    private static final class Log {
        static final int WIDTH = 4;
        static final int ROWS_MOST = 60;

        int rows;
        final int[] entries = new int[WIDTH * ROWS_MOST];

        void copyFrom(Log other) {
            rows = other.rows;
            System.arraycopy(other.entries, 0, entries, 0, entries.length);
        }

        void add(int day, int goer, int train, int cost) {
            if (rows >= ROWS_MOST) {
                System.arraycopy(entries, WIDTH, entries, 0, entries.length - WIDTH);
                rows = ROWS_MOST - 1;
            }
            int place = rows * WIDTH;
            entries[place] = day;
            entries[place + 1] = goer;
            entries[place + 2] = train;
            entries[place + 3] = cost;
            rows++;
        }

        int entryOf(int ago, int what) {
            if (ago < 0 || ago >= rows) {
                return NO_ROW;
            }
            return entries[(rows - 1 - ago) * WIDTH + what];
        }

        int countOf(int goer) {
            int many = 0;
            for (int row = 0; row < rows; row++) {
                if (entries[row * WIDTH + 1] == goer) {
                    many++;
                }
            }
            return many;
        }

        int latestDayOf(int goer) {
            for (int row = rows - 1; row >= 0; row--) {
                if (entries[row * WIDTH + 1] == goer) {
                    return entries[row * WIDTH];
                }
            }
            return NONE;
        }
    }

    /** All that an undoing or THE IMAGE brings back. */
    private static final class State {
        final Things things = new Things();
        int goers;
        final int[] wish = new int[GOERS_MOST];
        final int[] deed = new int[GOERS_MOST];
        int makers;
        final int[] born = new int[GOERS_MOST];
        final int[] money = new int[GOERS_MOST];
        final int[] nerve = new int[GOERS_MOST];
        final int[] shuns = new int[GOERS_MOST];
        final int[] by = new int[GOERS_MOST];
        int trains;
        final int[] halts = new int[TRAINS_MOST];
        final int[] seats = new int[TRAINS_MOST];
        int texts;
        Law law;
        int day;
        int seed = 1;
        final Log log = new Log();

        void copyFrom(State other) {
            things.copyFrom(other.things);
            goers = other.goers;
            System.arraycopy(other.wish, 0, wish, 0, GOERS_MOST);
            System.arraycopy(other.deed, 0, deed, 0, GOERS_MOST);
            makers = other.makers;
            System.arraycopy(other.born, 0, born, 0, GOERS_MOST);
            System.arraycopy(other.money, 0, money, 0, GOERS_MOST);
            System.arraycopy(other.nerve, 0, nerve, 0, GOERS_MOST);
            System.arraycopy(other.shuns, 0, shuns, 0, GOERS_MOST);
            System.arraycopy(other.by, 0, by, 0, GOERS_MOST);
            trains = other.trains;
            System.arraycopy(other.halts, 0, halts, 0, TRAINS_MOST);
            System.arraycopy(other.seats, 0, seats, 0, TRAINS_MOST);
            texts = other.texts;
            law = other.law;
            day = other.day;
            seed = other.seed;
            log.copyFrom(other.log);
        }

        /** Answers which one it is; all else of him is told behind. */
        int addGoer(int stop, int purse) {
            if (goers >= GOERS_MOST) {
                return GOERS_MOST - 1;
            }
            int goer = goers;
            goers++;
            wish[goer] = stop;
            money[goer] = purse;
            nerve[goer] = 50;
            born[goer] = NONE;
            shuns[goer] = 0;
            by[goer] = NONE;
            tellDeed(goer, NONE, false);
            return goer;
        }

        void addTrain(int places, int stopSet) {
            if (trains < TRAINS_MOST) {
                seats[trains] = places;
                halts[trains] = stopSet;
                trains++;
            }
        }

        void tellDeed(int goer, int thing, boolean makes) {
            int bit = 1 << goer;
            deed[goer] = thing;
            makers = thing != NONE && makes ? makers | bit : makers & ~bit;
        }

        void tellShunning(int goer, int other, boolean is) {
            shuns[goer] = is ? shuns[goer] | 1 << other : shuns[goer] & ~(1 << other);
            shuns[other] = is ? shuns[other] | 1 << goer : shuns[other] & ~(1 << goer);
        }

        int everyone() {
            return (1 << goers) - 1;
        }

        int goneSet() {
            int set = 0;
            for (int goer = 0; goer < goers; goer++) {
                if (by[goer] != NONE) {
                    set |= 1 << goer;
                }
            }
            return set;
        }

        int stayingSet() {
            return everyone() & ~goneSet();
        }

        int ridersOf(int train) {
            int set = 0;
            for (int goer = 0; goer < goers; goer++) {
                if (by[goer] == train) {
                    set |= 1 << goer;
                }
            }
            return set;
        }

        int everyHalt() {
            int set = 0;
            for (int train = 0; train < trains; train++) {
                set |= halts[train];
            }
            return set;
        }

        int allMoney() {
            int sum = 0;
            for (int goer = 0; goer < goers; goer++) {
                sum += money[goer];
            }
            return sum;
        }

        boolean stopsForHim(int goer, int train) {
            return (halts[train] >> wish[goer] & 1) != 0;
        }

        /** Those who in such a WORLD are BORN of what is so, or of none. */
        int aliveIn(int so) {
            int set = 0;
            for (int goer = 0; goer < goers; goer++) {
                if (born[goer] == NONE || (so >> born[goer] & 1) != 0) {
                    set |= 1 << goer;
                }
            }
            return set;
        }

        int costOf(int goer, int train) {
            if (law == null) {
                return COST_FIRST;
            }
            law.lookAt(this, goer, train);
            return COST_FIRST + law.sumOf(Law.COST);
        }

        int fearOf(int goer, int train) {
            if (law == null) {
                return 0;
            }
            law.lookAt(this, goer, train);
            return law.sumOf(Law.FEAR);
        }

        boolean canGo(int goer, int train) {
            if (by[goer] != NONE || !stopsForHim(goer, train)) {
                return false;
            }
            int riders = ridersOf(train);
            if (Integer.bitCount(riders) >= seats[train] || (riders & shuns[goer]) != 0) {
                return false;
            }
            if (law == null) {
                return COST_FIRST <= money[goer];
            }
            law.lookAt(this, goer, train);
            return law.sumOf(Law.BAR) == 0 && COST_FIRST + law.sumOf(Law.COST) <= money[goer];
        }

        int trainOf(int goer) {
            for (int train = 0; train < trains; train++) {
                if (canGo(goer, train)) {
                    return train;
                }
            }
            return NONE;
        }

        /** He must be one who CAN go by it; answers COST. */
        int board(int goer, int train) {
            int cost = costOf(goer, train);
            by[goer] = train;
            money[goer] -= cost;
            log.add(day, goer, train, cost);
            return cost;
        }

        int callBack(int goer) {
            int train = by[goer];
            by[goer] = NONE;
            log.add(day, goer, train, NONE);
            return train;
        }

        /** Answers how many went; without draws each who CAN goes. */
        int passDays(int many, boolean draws) {
            int went = 0;
            for (int i = 0; i < many; i++) {
                for (int goer = 0; goer < goers; goer++) {
                    if (by[goer] == NONE) {
                        int train = draws ? drawnTrainOf(goer) : trainOf(goer);
                        if (train != NONE) {
                            board(goer, train);
                            went++;
                        }
                    }
                }
                day = Math.min(DAY_MOST, day + 1);
            }
            return went;
        }

        /** The TRAIN by which he makes up his mind to go; NONE if he stays. */
        private int drawnTrainOf(int goer) {
            int drawn = draw() % 100;
            // FEAR is never below 0: if NERVE alone is not enough, no TRAIN need be looked for.
            if (drawn >= nerve[goer]) {
                return NONE;
            }
            int train = trainOf(goer);
            return train != NONE && drawn < nerve[goer] - fearOf(goer, train) ? train : NONE;
        }

        private int draw() {
            seed = 1103515245 * seed + 12345;
            return seed >>> 16 & 0x7FFF;
        }
    }

    /** The acts that can be undone: what all was like ahead of each. */
    private static final class Memory {
        static final int ACTS_MOST = 12;

        int kept;
        private int next;
        private final State[] before = new State[ACTS_MOST];

        Memory() {
            for (int i = 0; i < ACTS_MOST; i++) {
                before[i] = new State();
            }
        }

        void keep(State state) {
            before[next].copyFrom(state);
            next = (next + 1) % ACTS_MOST;
            kept = Math.min(ACTS_MOST, kept + 1);
        }

        boolean bringBack(State state) {
            if (kept == 0) {
                return false;
            }
            kept--;
            next = (next + ACTS_MOST - 1) % ACTS_MOST;
            state.copyFrom(before[next]);
            return true;
        }

        void forget() {
            kept = 0;
        }
    }

    /** THE LAW as signs behind one another: a condition's parts come ahead of what joins them. */
    private static final class Law {
        static final int COST = 0;
        static final int FEAR = 1;
        static final int BAR = 2;

        // Signs below these are numbers; these name facts of a GOER and a TRAIN, in the order of their words.
        static final int GOER = 1000;
        static final int WISH = 1001;
        static final int MONEY = 1002;
        static final int NERVE = 1003;
        static final int TRAIN = 1004;
        static final int GONE = 1005;
        static final int DAY = 1006;
        static final int BORN = 1007;
        static final int DOES = 1008;
        static final int FULL = 1009;
        // From here on signs join what stands ahead.
        static final int PLUS = 1010;
        static final int LESS = 1011;
        static final int MORE = 1012;
        static final int NOT = 1013;
        static final int AND = 1014;
        static final int OR = 1015;

        // On each of 7 levels an or and an and may wait, at the innermost three parts of a comparison.
        private static final int STACK_MOST = 32;

        final int lines;
        private final int[] kinds;
        private final int[] amounts;
        private final int[] ends;
        private final int[] code;
        private final int[] facts = new int[PLUS - GOER];
        private final int[] stack = new int[STACK_MOST];

        Law(int lines, int[] kinds, int[] amounts, int[] ends, int[] code) {
            this.lines = lines;
            this.kinds = kinds;
            this.amounts = amounts;
            this.ends = ends;
            this.code = code;
        }

        /** Must come ahead of sumOf: all LINES are then about these two. */
        void lookAt(State state, int goer, int train) {
            int riders = Integer.bitCount(state.ridersOf(train));
            facts[GOER - GOER] = goer;
            facts[WISH - GOER] = state.wish[goer];
            facts[MONEY - GOER] = state.money[goer];
            facts[NERVE - GOER] = state.nerve[goer];
            facts[TRAIN - GOER] = train;
            facts[GONE - GOER] = riders;
            facts[DAY - GOER] = state.day % 100;
            facts[BORN - GOER] = state.born[goer] != NONE ? 1 : 0;
            facts[DOES - GOER] = state.deed[goer] != NONE ? 1 : 0;
            facts[FULL - GOER] = riders >= state.seats[train] ? 1 : 0;
        }

        int sumOf(int kind) {
            int sum = 0;
            int from = 0;
            for (int line = 0; line < lines; line++) {
                if (kinds[line] == kind && holds(from, ends[line])) {
                    sum += amounts[line];
                }
                from = ends[line];
            }
            return sum;
        }

        /** A LINE without a condition has no signs, and holds. */
        private boolean holds(int from, int to) {
            int top = NONE;
            for (int i = from; i < to; i++) {
                int sign = code[i];
                if (sign < PLUS) {
                    if (top + 1 < STACK_MOST) {
                        top++;
                        stack[top] = sign < GOER ? sign : facts[sign - GOER];
                    }
                } else if (sign == NOT) {
                    if (top >= 0) {
                        stack[top] = 1 - stack[top];
                    }
                } else if (top >= 1) {
                    int right = stack[top];
                    top--;
                    int left = stack[top];
                    switch (sign) {
                        case PLUS:
                            stack[top] = left + right;
                            break;
                        case LESS:
                            stack[top] = left < right ? 1 : 0;
                            break;
                        case MORE:
                            stack[top] = left > right ? 1 : 0;
                            break;
                        case AND:
                            stack[top] = left & right;
                            break;
                        default:
                            stack[top] = left | right;
                            break;
                    }
                }
            }
            return top < 0 || stack[top] != 0;
        }
    }

    /** The bytes that were fed, and the reading of them: whatever is refused leaves place at its begin. */
    private static final class Tape {
        private static final int DIGITS_MOST = 3;

        final int[] bytes = new int[TAPE_MOST];
        int length;
        int place;
        int number;
        private int textLength;
        private int begin;

        void append(int four) {
            for (int shift = 24; shift >= 0 && length < TAPE_MOST; shift -= 8) {
                bytes[length] = four >>> shift & 255;
                length++;
            }
        }

        /** The TAPE is used up; its bytes can be read till more are fed. */
        void open() {
            textLength = Math.min(length, TAPE_MOST);
            length = 0;
            moveTo(0);
        }

        boolean isOver() {
            return place >= textLength;
        }

        /** What stands ahead of it is taken, and the blanks behind: place is at the next one's begin. */
        private void moveTo(int behind) {
            begin = place;
            place = behind;
            while (place < textLength && bytes[place] == ' ') {
                place++;
            }
        }

        /** Puts back what was taken last: it cannot stand there after all. */
        boolean refuse() {
            place = begin;
            return false;
        }

        boolean takeSign(char sign) {
            if (place >= textLength || bytes[place] != sign) {
                return false;
            }
            moveTo(place + 1);
            return true;
        }

        boolean takeWord(String word) {
            if (!isNext(word, 0, word.length())) {
                return false;
            }
            moveTo(place + word.length());
            return true;
        }

        /** Which of these words, told with blanks between them, comes next and is taken; NONE. */
        int takeOneOf(String words) {
            int which = 0;
            int from = 0;
            for (int i = 0; i <= words.length(); i++) {
                if (i == words.length() || words.charAt(i) == ' ') {
                    if (isNext(words, from, i)) {
                        moveTo(place + i - from);
                        return which;
                    }
                    which++;
                    from = i + 1;
                }
            }
            return NONE;
        }

        private boolean isNext(String words, int from, int to) {
            int behind = place + to - from;
            if (behind > textLength) {
                return false;
            }
            for (int i = from; i < to; i++) {
                if (bytes[place + i - from] != words.charAt(i)) {
                    return false;
                }
            }
            boolean goesOn = behind < textLength && bytes[behind] >= 'a' && bytes[behind] <= 'z';
            return !goesOn;
        }

        boolean takeNumber(int least, int most) {
            int behind = place;
            int value = 0;
            while (behind < textLength && behind - place <= DIGITS_MOST && bytes[behind] >= '0' && bytes[behind] <= '9') {
                value = 10 * value + bytes[behind] - '0';
                behind++;
            }
            int digits = behind - place;
            if (digits == 0 || digits > DIGITS_MOST || value < least || value > most) {
                return false;
            }
            number = value;
            moveTo(behind);
            return true;
        }

        /** Letters for STOPS, as bits; 0 if they are none such. */
        int takeStopLetters() {
            int set = 0;
            int behind = place;
            while (behind < textLength && bytes[behind] >= 'a' && bytes[behind] <= 'z') {
                int stop = bytes[behind] - 'a';
                if (stop >= STOP_COUNT || (set >> stop & 1) != 0) {
                    return 0;
                }
                set |= 1 << stop;
                behind++;
            }
            moveTo(behind);
            return set;
        }
    }

    /** Reads a text of THE STATION into a draft. */
    private static final class StationText {
        private static final int LINES_MOST = 14;
        private static final int WORTH_MOST = 99;
        private static final int SEATS_MOST = 6;
        private static final int TOLD_DAY_MOST = 999;

        private StationText() {
        }

        static boolean read(Tape text, State state) {
            if (text.isOver()) {
                return true;
            }
            for (int line = 0; line < LINES_MOST; line++) {
                if (!readLine(text, state)) {
                    return false;
                }
                if (!text.takeSign(';')) {
                    return text.isOver();
                }
            }
            // One LINE too many: wrong at its first word, where the text stands now.
            return false;
        }

        private static boolean readLine(Tape text, State state) {
            switch (text.takeOneOf("thing makes hinders goer shuns train day")) {
                case 0:
                    return state.things.count < THINGS_MOST ? readThing(text, state.things) : text.refuse();
                case 1:
                    return readTie(text, state.things, true);
                case 2:
                    return readTie(text, state.things, false);
                case 3:
                    return state.goers < GOERS_MOST ? readGoer(text, state) : text.refuse();
                case 4:
                    return readShunning(text, state);
                case 5:
                    return state.trains < TRAINS_MOST ? readTrain(text, state) : text.refuse();
                case 6:
                    return readDay(text, state);
                default:
                    return false;
            }
        }

        private static boolean readThing(Tape text, Things things) {
            if (!text.takeWord("at") || !text.takeNumber(0, STOP_COUNT - 1)) {
                return false;
            }
            int stop = text.number;
            boolean so = text.takeWord("so");
            int worth = 1;
            if (text.takeWord("worth")) {
                if (!text.takeNumber(0, WORTH_MOST)) {
                    return false;
                }
                worth = text.number;
            }
            things.add(stop, so, worth);
            return true;
        }

        private static boolean readTie(Tape text, Things things, boolean making) {
            if (!text.takeNumber(0, things.count - 1)) {
                return false;
            }
            int thing = text.number;
            if (!text.takeNumber(0, things.count - 1)) {
                return false;
            }
            int other = text.number;
            if (things.at[other] <= things.at[thing]) {
                return text.refuse();
            }
            things.tie(thing, other, making);
            return true;
        }

        private static boolean readGoer(Tape text, State state) {
            if (!text.takeWord("to") || !text.takeNumber(0, STOP_COUNT - 1)) {
                return false;
            }
            int stop = text.number;
            if (!text.takeWord("money") || !text.takeNumber(0, MONEY_MOST)) {
                return false;
            }
            int goer = state.addGoer(stop, text.number);
            if (text.takeWord("nerve")) {
                if (!text.takeNumber(0, NERVE_MOST)) {
                    return false;
                }
                state.nerve[goer] = text.number;
            }
            return readDeed(text, state, goer) && readBirth(text, state, goer);
        }

        private static boolean readDeed(Tape text, State state, int goer) {
            boolean does = text.takeWord("does");
            if (!does && !text.takeWord("undoes")) {
                return true;
            }
            if (!text.takeNumber(0, state.things.count - 1)) {
                return false;
            }
            state.tellDeed(goer, text.number, does);
            return true;
        }

        private static boolean readBirth(Tape text, State state, int goer) {
            if (!text.takeWord("born")) {
                return true;
            }
            if (!text.takeNumber(0, state.things.count - 1)) {
                return false;
            }
            state.born[goer] = text.number;
            return true;
        }

        private static boolean readShunning(Tape text, State state) {
            if (!text.takeNumber(0, state.goers - 1)) {
                return false;
            }
            int goer = text.number;
            if (!text.takeNumber(0, state.goers - 1)) {
                return false;
            }
            if (text.number == goer) {
                return text.refuse();
            }
            state.tellShunning(goer, text.number, true);
            return true;
        }

        private static boolean readTrain(Tape text, State state) {
            if (!text.takeWord("seats") || !text.takeNumber(1, SEATS_MOST) || !text.takeWord("stops")) {
                return false;
            }
            int seats = text.number;
            int stopSet = text.takeStopLetters();
            if (stopSet == 0) {
                return false;
            }
            state.addTrain(seats, stopSet);
            return true;
        }

        private static boolean readDay(Tape text, State state) {
            if (!text.takeNumber(0, TOLD_DAY_MOST)) {
                return false;
            }
            state.day = text.number;
            return true;
        }
    }

    /** Reads THE LAW into rows of its own, from which a right one is copied. */
    private static final class LawText {
        private static final int LINES_MOST = 12;
        private static final int AMOUNT_MOST = 200;
        private static final int NUMBER_MOST = 999;
        private static final int DEPTH_MOST = 6;

        private int lines;
        private int signs;
        private final int[] kinds = new int[LINES_MOST];
        private final int[] amounts = new int[LINES_MOST];
        private final int[] ends = new int[LINES_MOST];
        // Each sign comes from a byte of its own.
        private final int[] code = new int[TAPE_MOST];

        Law toLaw() {
            return new Law(lines, Arrays.copyOf(kinds, lines), Arrays.copyOf(amounts, lines),
                    Arrays.copyOf(ends, lines), Arrays.copyOf(code, signs));
        }

        boolean read(Tape text) {
            lines = 0;
            signs = 0;
            if (text.isOver()) {
                return true;
            }
            for (int line = 0; line < LINES_MOST; line++) {
                if (!readLine(text, line)) {
                    return false;
                }
                lines = line + 1;
                if (!text.takeSign(';')) {
                    return text.isOver();
                }
            }
            // One LINE too many: wrong at its first word, where the text stands now.
            return false;
        }

        private boolean readLine(Tape text, int line) {
            // The kinds' numbers are in this order.
            int kind = text.takeOneOf("cost fear bar");
            if (kind == NONE) {
                return false;
            }
            kinds[line] = kind;
            // A bar counts as 1, so that the sum of those that hold tells whether there is one.
            amounts[line] = 1;
            if (kind != Law.BAR) {
                if (!text.takeNumber(0, AMOUNT_MOST)) {
                    return false;
                }
                amounts[line] = text.number;
            }
            if (text.takeWord("if") && !readCondition(text, 0)) {
                return false;
            }
            ends[line] = signs;
            return true;
        }

        private void put(int sign) {
            if (signs < code.length) {
                code[signs] = sign;
                signs++;
            }
        }

        /** and binds closer than or: it is put as soon as its right side stands, or behind all of an ALL. */
        private boolean readCondition(Tape text, int depth) {
            boolean behindAnd = false;
            boolean behindOr = false;
            for (int atom = 0; atom < TAPE_MOST; atom++) {
                if (!readAtom(text, depth)) {
                    return false;
                }
                if (behindAnd) {
                    put(Law.AND);
                }
                behindAnd = text.takeWord("and");
                if (!behindAnd) {
                    if (behindOr) {
                        put(Law.OR);
                    }
                    behindOr = text.takeWord("or");
                    if (!behindOr) {
                        return true;
                    }
                }
            }
            return false;
        }

        private boolean readAtom(Tape text, int depth) {
            if (text.takeWord("not")) {
                if (depth >= DEPTH_MOST) {
                    return text.refuse();
                }
                if (!readAtom(text, depth + 1)) {
                    return false;
                }
                put(Law.NOT);
                return true;
            }
            if (text.takeSign('(')) {
                if (depth >= DEPTH_MOST) {
                    return text.refuse();
                }
                return readCondition(text, depth + 1) && text.takeSign(')');
            }
            int fact = text.takeOneOf("born does full");
            if (fact != NONE) {
                put(Law.BORN + fact);
                return true;
            }
            if (!readSum(text)) {
                return false;
            }
            int than = text.takeSign('<') ? Law.LESS : text.takeSign('>') ? Law.MORE : NONE;
            if (than == NONE || !readSum(text)) {
                return false;
            }
            put(than);
            return true;
        }

        private boolean readSum(Tape text) {
            for (int part = 0; part < TAPE_MOST; part++) {
                if (text.takeNumber(0, NUMBER_MOST)) {
                    put(text.number);
                } else {
                    int name = text.takeOneOf("goer wish money nerve train gone day");
                    if (name == NONE) {
                        return false;
                    }
                    put(Law.GOER + name);
                }
                if (part > 0) {
                    put(Law.PLUS);
                }
                if (!text.takeSign('+')) {
                    return true;
                }
            }
            return false;
        }
    }

    /** The WORLDS of sets of GOERS, and which sets AGREE. */
    private static final class Worlds {
        final int[] so = new int[SETS];
        final int[] alive = new int[SETS];
        private int count;
        private int makers;
        private final int[] order = new int[THINGS_MOST];
        private final int[] madeBy = new int[THINGS_MOST];
        private final int[] hinderedBy = new int[THINGS_MOST];
        private final int[] doers = new int[THINGS_MOST];

        /** Fills the WORLDS of all sets within one, with such THINGS FIRST so. */
        void fill(State state, int first, int within) {
            count = state.things.count;
            makers = state.makers;
            orderByStops(state.things);
            turnTies(state.things);
            findDoers(state);
            for (int set = 0; set < SETS; set++) {
                if ((set & ~within) == 0) {
                    so[set] = build(set, first);
                    alive[set] = state.aliveIn(so[set]);
                }
            }
        }

        private void orderByStops(Things things) {
            int placed = 0;
            for (int stop = 0; stop < STOP_COUNT; stop++) {
                for (int thing = 0; thing < count; thing++) {
                    if (things.at[thing] == stop && placed < THINGS_MOST) {
                        order[placed] = thing;
                        placed++;
                    }
                }
            }
        }

        private void turnTies(Things things) {
            for (int thing = 0; thing < count; thing++) {
                madeBy[thing] = 0;
                hinderedBy[thing] = 0;
                for (int other = 0; other < count; other++) {
                    madeBy[thing] |= (things.makes[other] >> thing & 1) << other;
                    hinderedBy[thing] |= (things.hinders[other] >> thing & 1) << other;
                }
            }
        }

        private void findDoers(State state) {
            Arrays.fill(doers, 0);
            for (int goer = 0; goer < state.goers; goer++) {
                int thing = state.deed[goer];
                if (thing != NONE && state.wish[goer] <= state.things.at[thing]) {
                    doers[thing] |= 1 << goer;
                }
            }
        }

        private int build(int set, int first) {
            int world = 0;
            for (int i = 0; i < count; i++) {
                int thing = order[i];
                int deeds = set & doers[thing];
                boolean is;
                if (deeds != 0) {
                    is = lastMakes(deeds);
                } else {
                    boolean begun = (first >> thing & 1) != 0 || (world & madeBy[thing]) != 0;
                    is = begun && (world & hinderedBy[thing]) == 0;
                }
                if (is) {
                    world |= 1 << thing;
                }
            }
            return world;
        }

        private boolean lastMakes(int deeds) {
            for (int goer = GOERS_MOST - 1; goer >= 0; goer--) {
                if ((deeds >> goer & 1) != 0) {
                    return (makers >> goer & 1) != 0;
                }
            }
            return false;
        }

        /** A set AGREES if it is just those of the GONE who come about in its own WORLD. */
        boolean isAgreeing(int set, int gone) {
            return (gone & alive[set]) == set;
        }

        int countAgreeing(int gone) {
            int many = 0;
            for (int set = 0; set <= gone; set++) {
                if ((set & ~gone) == 0 && isAgreeing(set, gone)) {
                    many++;
                }
            }
            return many;
        }

        int pastOf(int gone) {
            int best = NONE;
            for (int set = 0; set <= gone; set++) {
                if ((set & ~gone) == 0 && isFewer(set, best) && isAgreeing(set, gone)) {
                    best = set;
                }
            }
            return best;
        }

        int nowOf(int gone) {
            int past = pastOf(gone);
            return so[past == NONE ? 0 : past];
        }
    }

    /** GOERS put to TRAINS as if nobody was GONE. */
    private static final class Seating {
        final int[] bestWay = new int[GOERS_MOST];
        private int most;
        private final int[] way = new int[GOERS_MOST];
        private final int[] aboard = new int[TRAINS_MOST];

        int seatMost(State state, int set) {
            most = NONE;
            seatFrom(state, 0, set, 0);
            return most;
        }

        boolean canSeatAll(State state, int set) {
            int all = Integer.bitCount(set);
            most = all - 1;
            seatFrom(state, 0, set, 0);
            return most == all;
        }

        /** Ways are tried in their order, so that only one with more goes before an earlier one. */
        private void seatFrom(State state, int goer, int set, int seated) {
            if (seated + Integer.bitCount(set >> goer) <= most) {
                return;
            }
            if (goer >= state.goers || goer >= GOERS_MOST) {
                most = seated;
                System.arraycopy(way, 0, bestWay, 0, GOERS_MOST);
                return;
            }
            if ((set >> goer & 1) != 0) {
                for (int train = 0; train < state.trains; train++) {
                    if (hasRoom(state, goer, train)) {
                        way[goer] = train;
                        aboard[train] |= 1 << goer;
                        seatFrom(state, goer + 1, set, seated + 1);
                        aboard[train] &= ~(1 << goer);
                    }
                }
            }
            way[goer] = NONE;
            seatFrom(state, goer + 1, set, seated);
        }

        private boolean hasRoom(State state, int goer, int train) {
            int others = aboard[train];
            return state.stopsForHim(goer, train) && (others & state.shuns[goer]) == 0
                    && Integer.bitCount(others) < state.seats[train];
        }
    }

    /** GOERS put two by two. Pairs of unlike WISH add nothing and come behind none, so they are never tried. */
    private static final class Pairing {
        final int[] bestWay = new int[GOERS_MOST];
        private int most;
        private final int[] way = new int[GOERS_MOST];

        int pairMost(State state, int set) {
            most = NONE;
            Arrays.fill(way, NONE);
            pairFrom(state, 0, set, 0);
            return most;
        }

        /** The set are those who are free yet; ways are tried in their order. */
        private void pairFrom(State state, int goer, int set, int pairs) {
            if (pairs + Integer.bitCount(set >> goer) / 2 <= most) {
                return;
            }
            if (goer >= state.goers || goer >= GOERS_MOST) {
                most = pairs;
                System.arraycopy(way, 0, bestWay, 0, GOERS_MOST);
                return;
            }
            pairFrom(state, goer + 1, set, pairs);
            if ((set >> goer & 1) == 0) {
                return;
            }
            for (int other = goer + 1; other < state.goers; other++) {
                boolean free = (set >> other & 1) != 0;
                boolean shun = (state.shuns[goer] >> other & 1) != 0;
                if (free && !shun && state.wish[goer] == state.wish[other]) {
                    way[goer] = other;
                    way[other] = goer;
                    pairFrom(state, goer + 1, set & ~(1 << other), pairs + 1);
                    way[goer] = NONE;
                    way[other] = NONE;
                }
            }
        }
    }
}
