import java.util.ArrayList;
import java.util.List;

/**
 * The document once more, by other means: states that are copied whole, texts that are matched as
 * patterns, and the best barter found among all the ways in which each takes from one or nobody.
 */
final class PlainMarket {
    private static final class Trader {
        int makes;
        int wants;
        int ware;
        int age;
        int met;
        boolean shut;

        Trader copy() {
            Trader other = new Trader();
            other.makes = makes;
            other.wants = wants;
            other.ware = ware;
            other.age = age;
            other.met = met;
            other.shut = shut;
            return other;
        }
    }

    private static final class State {
        final List<Trader> traders = new ArrayList<>();
        int[] life = {3, 3, 3, 3, 3, 3};
        int[] metOfKind = new int[6];
        int circle = 7;
        int lot = 1;
        int day;
        int met;
        int thrown;
        int made;
        int calls;
        int refused;

        State copy() {
            State other = new State();
            for (Trader trader : traders) {
                other.traders.add(trader.copy());
            }
            other.life = life.clone();
            other.metOfKind = metOfKind.clone();
            other.circle = circle;
            other.lot = lot;
            other.day = day;
            other.met = met;
            other.thrown = thrown;
            other.made = made;
            other.calls = calls;
            other.refused = refused;
            return other;
        }
    }

    private State now = new State();
    private State saved;
    private final List<State> history = new ArrayList<>();
    private String pad = "";
    private int[] stop;

    private int n() {
        return now.traders.size();
    }

    private boolean no(int trader) {
        return trader < 0 || trader >= n();
    }

    private static boolean out(int x, int from, int to) {
        return x < from || x > to;
    }

    private void change() {
        history.add(now.copy());
        if (history.size() > 4) {
            history.remove(0);
        }
    }

    // ---- rules

    private static boolean good(State s, Trader t) {
        return t.age < s.life[t.ware];
    }

    private static boolean takes(State s, int taker, int giver) {
        Trader a = s.traders.get(taker);
        Trader b = s.traders.get(giver);
        return a != b && !a.shut && !b.shut && good(s, a) && good(s, b) && (a.wants & (1 << b.ware)) != 0;
    }

    private static int refusal(State s, int one, int other) {
        Trader a = s.traders.get(one);
        Trader b = s.traders.get(other);
        if (a.shut || b.shut) {
            return 1;
        }
        if (!good(s, a) || !good(s, b)) {
            return 2;
        }
        if ((a.wants >> b.ware) % 2 == 0) {
            return 3;
        }
        return (b.wants >> a.ware) % 2 == 0 ? 4 : 0;
    }

    /** For each trader from whom this one takes, or 99 for nobody. */
    static int[] best(State s) {
        int[] best = new int[s.traders.size()];
        java.util.Arrays.fill(best, 99);
        int[] way = best.clone();
        return enumerate(s, 0, way, best);
    }

    private static int[] enumerate(State s, int trader, int[] way, int[] best) {
        if (trader == way.length) {
            return isBarter(way, s.circle) && isBetter(way, best) ? way.clone() : best;
        }
        int[] found = best;
        for (int giver = 0; giver < way.length; giver++) {
            if (takes(s, trader, giver)) {
                way[trader] = giver;
                found = enumerate(s, trader + 1, way, found);
            }
        }
        way[trader] = 99;
        return enumerate(s, trader + 1, way, found);
    }

    /** Whoever takes comes back to the beginning within CIRCLE steps, and no two take from one. */
    private static boolean isBarter(int[] way, int circle) {
        for (int trader = 0; trader < way.length; trader++) {
            for (int other = 0; other < trader; other++) {
                if (way[trader] != 99 && way[trader] == way[other]) {
                    return false;
                }
            }
            int at = way[trader];
            for (int step = 1; step < circle && at != 99 && at != trader; step++) {
                at = way[at];
            }
            if (way[trader] != 99 && at != trader) {
                return false;
            }
        }
        return true;
    }

    private static int size(int[] way) {
        int size = 0;
        for (int giver : way) {
            size += giver == 99 ? 0 : 1;
        }
        return size;
    }

    private static boolean isBetter(int[] way, int[] best) {
        if (size(way) != size(best)) {
            return size(way) > size(best);
        }
        return java.util.Arrays.compare(way, best) < 0;
    }

    private static void carryOut(State s, int[] way) {
        State old = s.copy();
        for (int trader = 0; trader < way.length; trader++) {
            if (way[trader] != 99) {
                Trader to = s.traders.get(trader);
                Trader from = old.traders.get(way[trader]);
                to.ware = from.ware;
                to.age = from.age;
                to.wants -= 1 << from.ware;
                to.met++;
                s.met++;
                s.metOfKind[from.ware]++;
            }
        }
    }

    private static int market(State s) {
        int[] way = best(s);
        carryOut(s, way);
        s.calls++;
        return size(way);
    }

    private static int pass(State s) {
        int thrown = 0;
        s.day++;
        for (Trader t : s.traders) {
            t.age++;
            if (!good(s, t)) {
                thrown++;
                t.ware = t.makes;
                t.age = 0;
                s.made++;
            }
        }
        s.thrown += thrown;
        s.lot = (421 * s.lot + 1663) % 10000;
        int shut = s.lot % (s.traders.size() + 1);
        for (int i = 0; i < s.traders.size(); i++) {
            s.traders.get(i).shut = i == shut;
        }
        return thrown;
    }

    private static int byHand(State s, int one, int other) {
        int reason = refusal(s, one, other);
        if (reason != 0) {
            s.refused++;
            return reason;
        }
        int[] way = new int[s.traders.size()];
        java.util.Arrays.fill(way, 99);
        way[one] = other;
        way[other] = one;
        carryOut(s, way);
        return 10;
    }

    private static void arrive(State s, int makes, int wants) {
        Trader t = new Trader();
        t.makes = makes;
        t.ware = makes;
        t.wants = wants;
        s.made++;
        s.traders.add(t);
    }

    private static final String PART = "[0-5]>(?=[0-5])0?1?2?3?4?5?";
    private static final String TRADERS = PART + "(," + PART + ")*";
    private static final String DAYS = "(c|d|x(?:0[1-6]|1[02-6]|2[013-6]|3[0-24-6]|4[0-356]|5[0-46]|6[0-5]))+";
    private static final String[] TAILS = {"", "1", "0", ">1", "0>1", "01"};

    /** A beginning is right, if one of a few tails makes a whole pad of it. */
    private static int fault(String pad, String pattern) {
        for (int length = 1; length <= pad.length(); length++) {
            boolean right = false;
            for (String tail : TAILS) {
                right |= (pad.substring(0, length) + tail).matches(pattern);
            }
            if (!right) {
                return length - 1;
            }
        }
        return pad.matches(pattern) ? -4 : pad.length();
    }

    // ---- the face

    int come(int makes, int wants) {
        if (out(makes, 0, 5) || out(wants, 0, 63)) {
            return -1;
        }
        if (n() == 7) {
            return -3;
        }
        change();
        arrive(now, makes, wants);
        return n() - 1;
    }

    int go(int trader) {
        if (no(trader)) {
            return -1;
        }
        change();
        return now.traders.remove(trader).met;
    }

    int want(int trader, int wants) {
        if (no(trader) || out(wants, 0, 63)) {
            return -1;
        }
        change();
        int old = now.traders.get(trader).wants;
        now.traders.get(trader).wants = wants;
        return old;
    }

    int life(int kind, int days) {
        if (out(kind, 0, 5) || out(days, 1, 9)) {
            return -1;
        }
        change();
        int old = now.life[kind];
        now.life[kind] = days;
        return old;
    }

    int circle(int traders) {
        if (out(traders, 2, 7)) {
            return -1;
        }
        change();
        int old = now.circle;
        now.circle = traders;
        return old;
    }

    int lot(int x) {
        if (out(x, 0, 9999)) {
            return -1;
        }
        change();
        int old = now.lot;
        now.lot = x;
        return old;
    }

    int barter(int one, int other) {
        if (no(one) || no(other) || one == other) {
            return -1;
        }
        change();
        return byHand(now, one, other);
    }

    int call() {
        change();
        return market(now);
    }

    int day() {
        change();
        return pass(now);
    }

    int append(int code) {
        if (out(code, 33, 126)) {
            return -1;
        }
        if (pad.length() == 60) {
            return -3;
        }
        pad += (char) code;
        return pad.length();
    }

    int clear() {
        int length = pad.length();
        pad = "";
        return length;
    }

    int fault(int way) {
        return out(way, 0, 1) ? -1 : fault(pad, way == 0 ? TRADERS : DAYS);
    }

    int traders() {
        if (!pad.matches(TRADERS)) {
            return -2;
        }
        String[] parts = pad.split(",");
        if (parts.length + n() > 7) {
            return -3;
        }
        change();
        for (String part : parts) {
            int wants = 0;
            for (char kind : part.substring(2).toCharArray()) {
                wants += 1 << Character.getNumericValue(kind);
            }
            arrive(now, Character.getNumericValue(part.charAt(0)), wants);
        }
        pad = "";
        return n();
    }

    int days() {
        if (!pad.matches(DAYS)) {
            return -2;
        }
        change();
        int met = now.met;
        String text = pad;
        pad = "";
        stop = null;
        for (int at = 0; at < text.length(); at++) {
            if (text.charAt(at) == 'c') {
                market(now);
            } else if (text.charAt(at) == 'd') {
                pass(now);
            } else {
                int one = text.charAt(at + 1) - '0';
                int other = text.charAt(at + 2) - '0';
                int got = no(one) || no(other) ? -1 : byHand(now, one, other);
                if (got != 10) {
                    stop = new int[] {got, at};
                    break;
                }
                at += 2;
            }
        }
        return now.met - met;
    }

    int why(int what) {
        return out(what, 0, 1) ? -1 : stop == null ? -4 : stop[what];
    }

    int trader(int trader, int what) {
        if (no(trader) || out(what, 0, 9)) {
            return -1;
        }
        Trader t = now.traders.get(trader);
        int giver = what == 9 ? best(now)[trader] : 99;
        int from = 0;
        int to = 0;
        for (int other = 0; other < n(); other++) {
            from += takes(now, trader, other) ? 1 : 0;
            to += takes(now, other, trader) ? 1 : 0;
        }
        int left = good(now, t) ? now.life[t.ware] - t.age : 0;
        int[] all = {t.makes, t.wants, t.ware, t.age, left, t.shut ? 1 : 0, t.met, from, to, giver == 99 ? -4 : giver};
        return all[what];
    }

    int can(int taker, int giver) {
        return no(taker) || no(giver) || taker == giver ? -1 : takes(now, taker, giver) ? 1 : 0;
    }

    int whyNot(int one, int other) {
        return no(one) || no(other) || one == other ? -1 : refusal(now, one, other);
    }

    int most(int way) {
        return out(way, 0, 1) ? -1 : size(best(now));
    }

    int kind(int kind, int what) {
        if (out(kind, 0, 5) || out(what, 0, 5)) {
            return -1;
        }
        int[] all = {now.life[kind], 0, 0, 0, 0, now.metOfKind[kind]};
        for (Trader t : now.traders) {
            all[1] += t.ware == kind ? 1 : 0;
            all[2] += t.ware == kind && !good(now, t) ? 1 : 0;
            all[3] += t.wants >> kind & 1;
            all[4] += t.makes == kind ? 1 : 0;
        }
        return all[what];
    }

    int count(int what) {
        if (out(what, 0, 15)) {
            return -1;
        }
        int[] all = {now.day, n(), 0, now.met, 0, 0, now.thrown, now.made, now.calls, now.refused, 0, now.circle,
            now.lot, -4, pad.length(), history.size()};
        for (int i = 0; i < n(); i++) {
            Trader t = now.traders.get(i);
            all[2] += Integer.bitCount(t.wants);
            all[good(now, t) ? 4 : 5]++;
            boolean stuck = t.wants > 0;
            for (int other = 0; other < n(); other++) {
                stuck &= !takes(now, i, other);
            }
            all[10] += stuck ? 1 : 0;
            all[13] = t.shut ? i : all[13];
        }
        return all[what];
    }

    double freshness() {
        double days = 0;
        int wares = 0;
        for (Trader t : now.traders) {
            if (good(now, t)) {
                days += now.life[t.ware] - t.age;
                wares++;
            }
        }
        return wares == 0 ? 0.0 : days / wares;
    }

    int ifCircle(int traders) {
        if (out(traders, 2, 7)) {
            return -1;
        }
        State other = now.copy();
        other.circle = traders;
        return size(best(other));
    }

    int ifDays(int days, int what) {
        if (out(days, 1, 20) || out(what, 0, 2)) {
            return -1;
        }
        State other = now.copy();
        for (int i = 0; i < days; i++) {
            market(other);
            pass(other);
        }
        int needs = 0;
        for (Trader t : other.traders) {
            needs += Integer.bitCount(t.wants);
        }
        return new int[] {other.met - now.met, other.thrown - now.thrown, needs}[what];
    }

    int bestWant(int trader) {
        if (no(trader)) {
            return -1;
        }
        int best = -4;
        int most = -1;
        for (int kind = 5; kind >= 0; kind--) {
            State other = now.copy();
            Trader t = other.traders.get(trader);
            if ((t.wants & 1 << kind) == 0) {
                t.wants |= 1 << kind;
                int size = size(best(other));
                if (size >= most) {
                    most = size;
                    best = kind;
                }
            }
        }
        return best;
    }

    int undo() {
        if (history.isEmpty()) {
            return -2;
        }
        now = history.remove(history.size() - 1);
        return history.size();
    }

    int save() {
        saved = now.copy();
        return now.day;
    }

    int restore() {
        if (saved == null) {
            return -2;
        }
        change();
        now = saved.copy();
        return now.day;
    }
}
