import java.util.Arrays;

/**
 * A game of market days with wares that spoil unless bartered on. What each call does is promised in
 * DOC.md; an object makes all its rows when it is made, so that no call makes a new one.
 */
public final class BarterRings {
    public static final int INVALID_ARGUMENT = -1;
    public static final int NOT_POSSIBLE = -2;
    public static final int LIMIT_REACHED = -3;
    public static final int NOT_FOUND = -4;

    private static final int KINDS = 6;
    private static final int ALL_KINDS = 63;
    private static final int FIRST_LIFE = 3;
    private static final int LONGEST_LIFE = 9;
    private static final int MOST_TRADERS = 7;
    private static final int TRADER_SETS = 128;
    private static final int LEAST_CIRCLE = 2;
    private static final int LOTS = 10000;
    private static final int LOT_FACTOR = 421;
    private static final int LOT_STEP = 1663;
    private static final int MOST_IF_DAYS = 20;
    private static final int PAD_LENGTH = 60;
    private static final int FIRST_CODE = 33;
    private static final int LAST_CODE = 126;
    private static final int STATES = 4;

    private static final int AS_TRADERS = 0;
    private static final int AS_DAYS = 1;

    /** No trader, no ware or no place, wherever a number of one could stand. */
    private static final int NONE = -1;

    private static final int STALL_SHUT = 1;
    private static final int NO_SOUND_WARE = 2;
    private static final int FIRST_WANTS_NOT = 3;
    private static final int SECOND_WANTS_NOT = 4;
    private static final int REFUSED_FOR_NOTHING = 0;
    private static final int BARTERED = 10;

    private final Market market = new Market();
    private final Market trial = new Market();
    private final Market snapshot = new Market();
    private final History history = new History();
    private final Pad pad = new Pad();
    private final CircleSets circleSets = new CircleSets();
    private final TakerSearch takerSearch = new TakerSearch();
    private boolean hasSnapshot;
    private int stopReason;
    private int stopPlace = NONE;

    public BarterRings() {
    }

    // ---- traders, kinds

    public int come(int makes, int wants) {
        if (!isKind(makes) || !isSetOfKinds(wants)) {
            return INVALID_ARGUMENT;
        }
        if (market.size >= MOST_TRADERS) {
            return LIMIT_REACHED;
        }
        history.record(market);
        market.add(makes, wants);
        return market.size - 1;
    }

    public int go(int trader) {
        if (!market.has(trader)) {
            return INVALID_ARGUMENT;
        }
        history.record(market);
        int met = market.met[trader];
        market.remove(trader);
        return met;
    }

    public int want(int trader, int wants) {
        if (!market.has(trader) || !isSetOfKinds(wants)) {
            return INVALID_ARGUMENT;
        }
        history.record(market);
        int before = market.wants[trader];
        market.wants[trader] = wants;
        return before;
    }

    public int life(int kind, int days) {
        if (!isKind(kind) || days < 1 || days > LONGEST_LIFE) {
            return INVALID_ARGUMENT;
        }
        history.record(market);
        int before = market.life[kind];
        market.life[kind] = days;
        return before;
    }

    public int circle(int traders) {
        if (!isCircleLength(traders)) {
            return INVALID_ARGUMENT;
        }
        history.record(market);
        int before = market.longestCircle;
        market.longestCircle = traders;
        return before;
    }

    public int lot(int x) {
        if (x < 0 || x >= LOTS) {
            return INVALID_ARGUMENT;
        }
        history.record(market);
        int before = market.lot;
        market.lot = x;
        return before;
    }

    // ---- barters, days

    public int barter(int one, int other) {
        if (!market.hasBoth(one, other)) {
            return INVALID_ARGUMENT;
        }
        history.record(market);
        return market.barterByHand(one, other);
    }

    public int call() {
        history.record(market);
        return callMarket(market);
    }

    public int day() {
        history.record(market);
        return market.passDay();
    }

    // ---- texts

    public int append(int code) {
        if (code < FIRST_CODE || code > LAST_CODE) {
            return INVALID_ARGUMENT;
        }
        if (pad.length >= PAD_LENGTH) {
            return LIMIT_REACHED;
        }
        pad.put((char) code);
        return pad.length;
    }

    public int clear() {
        int length = pad.length;
        pad.length = 0;
        return length;
    }

    public int fault(int way) {
        switch (way) {
            case AS_TRADERS:
                return pad.faultAsTraders();
            case AS_DAYS:
                return pad.faultAsDays();
            default:
                return INVALID_ARGUMENT;
        }
    }

    public int traders() {
        if (pad.faultAsTraders() != NOT_FOUND) {
            return NOT_POSSIBLE;
        }
        if (market.size + pad.numberOfTraders() > MOST_TRADERS) {
            return LIMIT_REACHED;
        }
        history.record(market);
        for (int place = 0; place < pad.length; place++) {
            if (pad.signAt(place) == '>') {
                market.add(pad.digitAt(place - 1), pad.wantsBehind(place));
            }
        }
        pad.length = 0;
        return market.size;
    }

    public int days() {
        if (pad.faultAsDays() != NOT_FOUND) {
            return NOT_POSSIBLE;
        }
        history.record(market);
        int before = market.needsMet();
        stopPlace = NONE;
        for (int place = 0; place < pad.length && stopPlace == NONE; place++) {
            char sign = pad.signAt(place);
            if (sign == 'c') {
                callMarket(market);
            } else if (sign == 'd') {
                market.passDay();
            } else if (sign == 'x') {
                doBarterOfPad(place);
            }
        }
        pad.length = 0;
        return market.needsMet() - before;
    }

    public int why(int what) {
        if (what != 0 && what != 1) {
            return INVALID_ARGUMENT;
        }
        if (stopPlace == NONE) {
            return NOT_FOUND;
        }
        return what == 0 ? stopReason : stopPlace;
    }

    // ---- looks; nothing is changed

    public int trader(int trader, int what) {
        if (!market.has(trader)) {
            return INVALID_ARGUMENT;
        }
        switch (what) {
            case 0:
                return market.makes[trader];
            case 1:
                return market.wants[trader];
            case 2:
                return market.hasWare(trader) ? market.ware[trader] : NOT_FOUND;
            case 3:
                return market.hasWare(trader) ? market.age[trader] : NOT_FOUND;
            case 4:
                return market.hasWare(trader) ? market.daysLeft(trader) : NOT_FOUND;
            case 5:
                return market.shut == trader ? 1 : 0;
            case 6:
                return market.met[trader];
            case 7:
                return Integer.bitCount(market.giversOf(trader));
            case 8:
                return market.numberOfTakers(trader);
            case 9:
                return bestGiver(trader);
            default:
                return INVALID_ARGUMENT;
        }
    }

    public int can(int taker, int giver) {
        if (!market.hasBoth(taker, giver)) {
            return INVALID_ARGUMENT;
        }
        return market.canTake(taker, giver) ? 1 : 0;
    }

    public int whyNot(int one, int other) {
        return market.hasBoth(one, other) ? market.refusal(one, other) : INVALID_ARGUMENT;
    }

    public int most(int way) {
        switch (way) {
            case 0:
                return circleSets.mostTraders(market, market.longestCircle);
            case 1:
                return takerSearch.findBest(market);
            default:
                return INVALID_ARGUMENT;
        }
    }

    public int kind(int kind, int what) {
        if (!isKind(kind)) {
            return INVALID_ARGUMENT;
        }
        switch (what) {
            case 0:
                return market.life[kind];
            case 1:
                return market.waresOfKind(kind);
            case 2:
                return market.waresOfKind(kind) - market.soundWaresOfKind(kind);
            case 3:
                return market.tradersWhoWant(kind);
            case 4:
                return market.tradersWhoMake(kind);
            case 5:
                return market.metOfKind[kind];
            default:
                return INVALID_ARGUMENT;
        }
    }

    public int count(int what) {
        switch (what) {
            case 0:
                return market.day;
            case 1:
                return market.size;
            case 2:
                return market.needs();
            case 3:
                return market.needsMet();
            case 4:
                return market.soundWares();
            case 5:
                return market.spoiltWares();
            case 6:
                return market.thrownAway;
            case 7:
                return market.made;
            case 8:
                return market.calls;
            case 9:
                return market.refused;
            case 10:
                return market.stuckTraders();
            case 11:
                return market.longestCircle;
            case 12:
                return market.lot;
            case 13:
                return market.shut == NONE ? NOT_FOUND : market.shut;
            case 14:
                return pad.length;
            case 15:
                return history.held;
            default:
                return INVALID_ARGUMENT;
        }
    }

    public double freshness() {
        int wares = market.soundWares();
        return wares > 0 ? (double) market.daysLeftOfAll() / wares : 0.0;
    }

    // ---- what would be; nothing is changed

    public int ifCircle(int traders) {
        return isCircleLength(traders) ? circleSets.mostTraders(market, traders) : INVALID_ARGUMENT;
    }

    public int ifDays(int days, int what) {
        if (days < 1 || days > MOST_IF_DAYS || what < 0 || what > 2) {
            return INVALID_ARGUMENT;
        }
        trial.copyFrom(market);
        for (int done = 0; done < days; done++) {
            callMarket(trial);
            trial.passDay();
        }
        switch (what) {
            case 0:
                return trial.needsMet() - market.needsMet();
            case 1:
                return trial.thrownAway - market.thrownAway;
            default:
                return trial.needs();
        }
    }

    public int bestWant(int trader) {
        if (!market.has(trader)) {
            return INVALID_ARGUMENT;
        }
        trial.copyFrom(market);
        int wants = market.wants[trader];
        int best = NOT_FOUND;
        int mostTraders = NONE;
        for (int kind = 0; kind < KINDS; kind++) {
            if (!holds(wants, kind)) {
                trial.wants[trader] = with(wants, kind);
                int traders = circleSets.mostTraders(trial, trial.longestCircle);
                if (traders > mostTraders) {
                    mostTraders = traders;
                    best = kind;
                }
            }
        }
        return best;
    }

    // ---- history, snapshot

    public int undo() {
        if (history.held <= 0) {
            return NOT_POSSIBLE;
        }
        history.takeBack(market);
        return history.held;
    }

    public int save() {
        snapshot.copyFrom(market);
        hasSnapshot = true;
        return market.day;
    }

    public int restore() {
        if (!hasSnapshot) {
            return NOT_POSSIBLE;
        }
        history.record(market);
        market.copyFrom(snapshot);
        return market.day;
    }

    // ---- helpers of the calls

    private static boolean isKind(int kind) {
        return kind >= 0 && kind < KINDS;
    }

    private static boolean isSetOfKinds(int kinds) {
        return kinds >= 0 && kinds <= ALL_KINDS;
    }

    private static boolean isCircleLength(int traders) {
        return traders >= LEAST_CIRCLE && traders <= MOST_TRADERS;
    }

    /** Sets of kinds and sets of traders are told as bits alike. */
    private static boolean holds(int set, int member) {
        return (set >> member & 1) != 0;
    }

    private static int with(int set, int member) {
        return set | 1 << member;
    }

    private int callMarket(Market called) {
        int traders = takerSearch.findBest(called);
        called.doBarter(takerSearch.bestGiverOf);
        called.calls++;
        return traders;
    }

    private int bestGiver(int trader) {
        takerSearch.findBest(market);
        int giver = takerSearch.bestGiverOf[trader];
        return giver == NONE ? NOT_FOUND : giver;
    }

    private void doBarterOfPad(int place) {
        int one = pad.digitAt(place + 1);
        int other = pad.digitAt(place + 2);
        int outcome = market.hasBoth(one, other) ? market.barterByHand(one, other) : INVALID_ARGUMENT;
        if (outcome != BARTERED) {
            stopReason = outcome;
            stopPlace = place;
        }
    }

    /** All that undo and restore bring back: the traders, the kinds, the settings and the accounts. */
    private static final class Market {
        final int[] makes = new int[MOST_TRADERS];
        final int[] wants = new int[MOST_TRADERS];
        final int[] ware = new int[MOST_TRADERS];
        final int[] age = new int[MOST_TRADERS];
        final int[] met = new int[MOST_TRADERS];
        final int[] life = new int[KINDS];
        final int[] metOfKind = new int[KINDS];
        int size;
        int longestCircle = MOST_TRADERS;
        int day;
        int lot = 1;
        int shut = NONE;
        int thrownAway;
        int made;
        int calls;
        int refused;
        private final int[] wareBefore = new int[MOST_TRADERS];
        private final int[] ageBefore = new int[MOST_TRADERS];

        Market() {
            Arrays.fill(life, FIRST_LIFE);
        }

        void copyFrom(Market other) {
            System.arraycopy(other.makes, 0, makes, 0, MOST_TRADERS);
            System.arraycopy(other.wants, 0, wants, 0, MOST_TRADERS);
            System.arraycopy(other.ware, 0, ware, 0, MOST_TRADERS);
            System.arraycopy(other.age, 0, age, 0, MOST_TRADERS);
            System.arraycopy(other.met, 0, met, 0, MOST_TRADERS);
            System.arraycopy(other.life, 0, life, 0, KINDS);
            System.arraycopy(other.metOfKind, 0, metOfKind, 0, KINDS);
            size = other.size;
            longestCircle = other.longestCircle;
            day = other.day;
            lot = other.lot;
            shut = other.shut;
            thrownAway = other.thrownAway;
            made = other.made;
            calls = other.calls;
            refused = other.refused;
        }

        boolean has(int trader) {
            return trader >= 0 && trader < size && size <= MOST_TRADERS;
        }

        boolean hasBoth(int one, int other) {
            return has(one) && has(other) && one != other;
        }

        void add(int makesKind, int wantsKinds) {
            if (size < 0 || size >= MOST_TRADERS) {
                return;
            }
            makes[size] = makesKind;
            wants[size] = wantsKinds;
            met[size] = 0;
            makeWare(size);
            size++;
        }

        void remove(int trader) {
            for (int place = trader; place >= 0 && place < size - 1; place++) {
                makes[place] = makes[place + 1];
                wants[place] = wants[place + 1];
                ware[place] = ware[place + 1];
                age[place] = age[place + 1];
                met[place] = met[place + 1];
            }
            size--;
            if (shut == trader) {
                shut = NONE;
            } else if (shut > trader) {
                shut--;
            }
        }

        private void makeWare(int trader) {
            ware[trader] = makes[trader];
            age[trader] = 0;
            made++;
        }

        boolean hasWare(int trader) {
            return has(trader) && isKind(ware[trader]);
        }

        boolean hasSoundWare(int trader) {
            return hasWare(trader) && age[trader] < life[ware[trader]];
        }

        /** In how many days the ware is spoilt; 0 if it is, or if there is none. */
        int daysLeft(int trader) {
            return hasSoundWare(trader) ? life[ware[trader]] - age[trader] : 0;
        }

        private boolean wantsWareOf(int taker, int giver) {
            return hasWare(giver) && has(taker) && holds(wants[taker], ware[giver]);
        }

        boolean canTake(int taker, int giver) {
            return taker != giver && taker != shut && giver != shut
                    && hasSoundWare(taker) && hasSoundWare(giver) && wantsWareOf(taker, giver);
        }

        int giversOf(int taker) {
            int givers = 0;
            for (int giver = 0; giver < size; giver++) {
                if (canTake(taker, giver)) {
                    givers = with(givers, giver);
                }
            }
            return givers;
        }

        int numberOfTakers(int giver) {
            int takers = 0;
            for (int taker = 0; taker < size; taker++) {
                if (canTake(taker, giver)) {
                    takers++;
                }
            }
            return takers;
        }

        int refusal(int one, int other) {
            if (one == shut || other == shut) {
                return STALL_SHUT;
            }
            if (!hasSoundWare(one) || !hasSoundWare(other)) {
                return NO_SOUND_WARE;
            }
            if (!wantsWareOf(one, other)) {
                return FIRST_WANTS_NOT;
            }
            return wantsWareOf(other, one) ? REFUSED_FOR_NOTHING : SECOND_WANTS_NOT;
        }

        int barterByHand(int one, int other) {
            int reason = refusal(one, other);
            if (reason != REFUSED_FOR_NOTHING) {
                refused++;
                return reason;
            }
            keepWares();
            takeWare(one, other);
            takeWare(other, one);
            return BARTERED;
        }

        void doBarter(int[] giverOf) {
            keepWares();
            for (int taker = 0; taker < size && taker < giverOf.length; taker++) {
                takeWare(taker, giverOf[taker]);
            }
        }

        /** All of a barter happens at once, so each takes what the other one had before it. */
        private void keepWares() {
            System.arraycopy(ware, 0, wareBefore, 0, MOST_TRADERS);
            System.arraycopy(age, 0, ageBefore, 0, MOST_TRADERS);
        }

        private void takeWare(int taker, int giver) {
            if (!has(taker) || !has(giver) || !isKind(wareBefore[giver])) {
                return;
            }
            int kind = wareBefore[giver];
            ware[taker] = kind;
            age[taker] = ageBefore[giver];
            wants[taker] &= ~(1 << kind);
            met[taker]++;
            metOfKind[kind]++;
        }

        int passDay() {
            int before = thrownAway;
            day++;
            for (int trader = 0; trader < size; trader++) {
                age[trader]++;
                renewWare(trader);
            }
            drawLot();
            return thrownAway - before;
        }

        private void renewWare(int trader) {
            if (hasSoundWare(trader)) {
                return;
            }
            if (hasWare(trader)) {
                thrownAway++;
            }
            makeWare(trader);
        }

        private void drawLot() {
            lot = (LOT_FACTOR * lot + LOT_STEP) % LOTS;
            int chances = size + 1;
            int drawn = chances > 0 ? lot % chances : size;
            shut = has(drawn) ? drawn : NONE;
        }

        int needs() {
            int needs = 0;
            for (int trader = 0; trader < size; trader++) {
                needs += Integer.bitCount(wants[trader]);
            }
            return needs;
        }

        int needsMet() {
            int needs = 0;
            for (int kind = 0; kind < KINDS; kind++) {
                needs += metOfKind[kind];
            }
            return needs;
        }

        int waresOfKind(int kind) {
            int wares = 0;
            for (int trader = 0; trader < size; trader++) {
                if (ware[trader] == kind) {
                    wares++;
                }
            }
            return wares;
        }

        int soundWaresOfKind(int kind) {
            int wares = 0;
            for (int trader = 0; trader < size; trader++) {
                if (ware[trader] == kind && hasSoundWare(trader)) {
                    wares++;
                }
            }
            return wares;
        }

        int soundWares() {
            int wares = 0;
            for (int trader = 0; trader < size; trader++) {
                if (hasSoundWare(trader)) {
                    wares++;
                }
            }
            return wares;
        }

        int spoiltWares() {
            int wares = 0;
            for (int trader = 0; trader < size; trader++) {
                if (hasWare(trader) && !hasSoundWare(trader)) {
                    wares++;
                }
            }
            return wares;
        }

        int daysLeftOfAll() {
            int days = 0;
            for (int trader = 0; trader < size; trader++) {
                days += daysLeft(trader);
            }
            return days;
        }

        int tradersWhoWant(int kind) {
            int found = 0;
            for (int trader = 0; trader < size; trader++) {
                if (holds(wants[trader], kind)) {
                    found++;
                }
            }
            return found;
        }

        int tradersWhoMake(int kind) {
            int found = 0;
            for (int trader = 0; trader < size; trader++) {
                if (makes[trader] == kind) {
                    found++;
                }
            }
            return found;
        }

        int stuckTraders() {
            int stuck = 0;
            for (int trader = 0; trader < size; trader++) {
                if (wants[trader] != 0 && giversOf(trader) == 0) {
                    stuck++;
                }
            }
            return stuck;
        }
    }

    /** Tells the best barter by the sets of traders that circles could hold, the small ones first. */
    private static final class CircleSets {
        private final int[] takersOf = new int[MOST_TRADERS];
        /** Of the chains that begin with the least trader of a set and hold all of it: the last ones. */
        private final int[] lastOnes = new int[TRADER_SETS];
        private final boolean[] isCircle = new boolean[TRADER_SETS];
        private final boolean[] isBarter = new boolean[TRADER_SETS];
        private int size;
        private int sets;

        int mostTraders(Market market, int longestCircle) {
            readTakers(market);
            findChains();
            findCircles(longestCircle);
            return findBarters();
        }

        private void readTakers(Market market) {
            size = Math.max(0, Math.min(market.size, MOST_TRADERS));
            sets = 1 << size;
            Arrays.fill(takersOf, 0);
            for (int taker = 0; taker < size; taker++) {
                int givers = market.giversOf(taker);
                for (int giver = 0; giver < size; giver++) {
                    if (holds(givers, giver)) {
                        takersOf[giver] = with(takersOf[giver], taker);
                    }
                }
            }
        }

        /** A chain only grows by traders beyond its first one, so that each circle is begun once. */
        private void findChains() {
            Arrays.fill(lastOnes, 0);
            for (int trader = 0; trader < size; trader++) {
                lastOnes[1 << trader] = 1 << trader;
            }
            for (int set = 1; set < sets; set++) {
                for (int next = leastOf(set) + 1; next < size; next++) {
                    if (!holds(set, next) && (lastOnes[set] & takersOf[next]) != 0) {
                        int longer = with(set, next);
                        lastOnes[longer] = with(lastOnes[longer], next);
                    }
                }
            }
        }

        private void findCircles(int longestCircle) {
            for (int set = 1; set < sets; set++) {
                int length = Integer.bitCount(set);
                isCircle[set] = length >= LEAST_CIRCLE && length <= longestCircle
                        && (lastOnes[set] & takersOf[leastOf(set)]) != 0;
            }
        }

        private int findBarters() {
            int most = 0;
            isBarter[0] = true;
            for (int set = 1; set < sets; set++) {
                isBarter[set] = isMadeOfCircles(set);
                if (isBarter[set]) {
                    most = Math.max(most, Integer.bitCount(set));
                }
            }
            return most;
        }

        private boolean isMadeOfCircles(int set) {
            int others = set & (set - 1);
            int least = set ^ others;
            for (int some = others; some > 0; some = (some - 1) & others) {
                if (isCircle[least | some] && isBarter[others ^ some]) {
                    return true;
                }
            }
            return false;
        }

        private static int leastOf(int set) {
            int least = 0;
            while (least < MOST_TRADERS - 1 && !holds(set, least)) {
                least++;
            }
            return least;
        }
    }

    /** Tells the best barter trader by trader, each with all from whom this one can take, or nobody. */
    private static final class TakerSearch {
        final int[] bestGiverOf = new int[MOST_TRADERS];
        private final int[] giversOf = new int[MOST_TRADERS];
        private final int[] giverOf = new int[MOST_TRADERS];
        private int size;
        private int longestCircle;
        private int most;

        int findBest(Market market) {
            size = Math.max(0, Math.min(market.size, MOST_TRADERS));
            longestCircle = market.longestCircle;
            most = NONE;
            for (int taker = 0; taker < size; taker++) {
                giversOf[taker] = market.giversOf(taker);
            }
            chooseGiver(0, 0, 0);
            return most;
        }

        /** Only more traders replace what was found, as what is found first comes first in the order. */
        private void chooseGiver(int taker, int takers, int taken) {
            if (takers + size - taker <= most) {
                return;
            }
            if (taker < 0 || taker >= size) {
                most = takers;
                System.arraycopy(giverOf, 0, bestGiverOf, 0, MOST_TRADERS);
                return;
            }
            for (int giver = 0; giver < size; giver++) {
                if (holds(giversOf[taker] & ~taken, giver) && fitsInCircle(taker, giver)) {
                    goOn(taker, giver, takers + 1, with(taken, giver));
                }
            }
            if (!holds(taken, taker)) {
                goOn(taker, NONE, takers, taken);
            }
        }

        private void goOn(int taker, int giver, int takers, int taken) {
            giverOf[taker] = giver;
            chooseGiver(taker + 1, takers, taken);
        }

        /** The chain behind the taker closes, or can close still, without too many traders. */
        private boolean fitsInCircle(int taker, int giver) {
            int last = giver;
            for (int length = 1; length <= longestCircle; length++) {
                if (last == taker) {
                    return true;
                }
                if (last < 0) {
                    return false;
                }
                if (last > taker) {
                    return length < longestCircle;
                }
                last = giverOf[last];
            }
            return false;
        }
    }

    /** The text that traders and days are read from. */
    private static final class Pad {
        private static final int MAKES_DUE = 0;
        private static final int ARROW_DUE = 1;
        private static final int WANT_DUE = 2;
        private static final int WANT_READ = 3;

        int length;
        private final char[] signs = new char[PAD_LENGTH];

        void put(char sign) {
            if (length >= 0 && length < PAD_LENGTH) {
                signs[length] = sign;
                length++;
            }
        }

        char signAt(int place) {
            return place >= 0 && place < length && place < PAD_LENGTH ? signs[place] : (char) 0;
        }

        int digitAt(int place) {
            return signAt(place) - '0';
        }

        int faultAsTraders() {
            int stage = MAKES_DUE;
            int leastWant = '0';
            for (int place = 0; place < length; place++) {
                char sign = signAt(place);
                if (stage == MAKES_DUE && sign >= '0' && sign <= '5') {
                    stage = ARROW_DUE;
                } else if (stage == ARROW_DUE && sign == '>') {
                    stage = WANT_DUE;
                    leastWant = '0';
                } else if (stage >= WANT_DUE && sign >= leastWant && sign <= '5') {
                    stage = WANT_READ;
                    leastWant = sign + 1;
                } else if (stage == WANT_READ && sign == ',') {
                    stage = MAKES_DUE;
                } else {
                    return place;
                }
            }
            return stage == WANT_READ ? NOT_FOUND : length;
        }

        int faultAsDays() {
            int digitsDue = 0;
            for (int place = 0; place < length; place++) {
                char sign = signAt(place);
                if (digitsDue > 0) {
                    if (sign < '0' || sign > '6' || digitsDue == 1 && sign == signAt(place - 1)) {
                        return place;
                    }
                    digitsDue--;
                } else if (sign == 'x') {
                    digitsDue = 2;
                } else if (sign != 'c' && sign != 'd') {
                    return place;
                }
            }
            return length > 0 && digitsDue == 0 ? NOT_FOUND : length;
        }

        int numberOfTraders() {
            int traders = 0;
            for (int place = 0; place < length; place++) {
                if (signAt(place) == '>') {
                    traders++;
                }
            }
            return traders;
        }

        /** The digits between an arrow and the next comma, or the end. */
        int wantsBehind(int arrow) {
            int wants = 0;
            for (int place = arrow + 1; place < length && signAt(place) != ','; place++) {
                wants = with(wants, digitAt(place));
            }
            return wants;
        }
    }

    /** The latest states, in a ring of rows. */
    private static final class History {
        int held;
        private final Market[] rows = new Market[STATES];
        private int newest;

        History() {
            for (int row = 0; row < STATES; row++) {
                rows[row] = new Market();
            }
        }

        void record(Market market) {
            newest = (newest + 1) % STATES;
            Market row = rowAt(newest);
            if (row != null) {
                row.copyFrom(market);
                held = Math.min(held + 1, STATES);
            }
        }

        void takeBack(Market market) {
            Market row = rowAt(newest);
            if (held > 0 && row != null) {
                market.copyFrom(row);
                held--;
                newest = (newest + STATES - 1) % STATES;
            }
        }

        private Market rowAt(int row) {
            return row >= 0 && row < STATES ? rows[row] : null;
        }
    }
}
