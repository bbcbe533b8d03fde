/** What the tests share: the constants, markets that the checks begin with, texts, and looks at all of a market. */
abstract class Markets {
    static final int INVALID = BarterRings.INVALID_ARGUMENT;
    static final int NOT_POSSIBLE = BarterRings.NOT_POSSIBLE;
    static final int LIMIT = BarterRings.LIMIT_REACHED;
    static final int NOT_FOUND = BarterRings.NOT_FOUND;

    /** The trader 0 has the kind 0 and wants 1, the trader 1 the other way round. */
    static BarterRings pair() {
        BarterRings x = new BarterRings();
        x.come(0, 2);
        x.come(1, 1);
        return x;
    }

    /** Each of the traders has a kind of its own and wants that of the next one, the last one the first's. */
    static BarterRings ring(int traders) {
        BarterRings x = new BarterRings();
        for (int trader = 0; trader < traders; trader++) {
            x.come(trader, 1 << (trader + 1) % traders);
        }
        return x;
    }

    /** Traders with the kinds 0 to 5 in turn, each of whom wants all kinds. */
    static BarterRings greedy(int traders) {
        BarterRings x = new BarterRings();
        for (int trader = 0; trader < traders; trader++) {
            x.come(trader % 6, 63);
        }
        return x;
    }

    /** Traders with the kinds 0 to 5 in turn, who want nothing. */
    static BarterRings idle(int traders) {
        BarterRings x = new BarterRings();
        for (int trader = 0; trader < traders; trader++) {
            x.come(trader % 6, 0);
        }
        return x;
    }

    /** One trader without wants whose ware, of the kind 0 with the life 9, has this age, 8 at the most. */
    static BarterRings aged(int days) {
        BarterRings x = idle(1);
        x.life(0, 9);
        for (int day = 0; day < days; day++) {
            dayWithoutShut(x);
        }
        return x;
    }

    /** A pair whose wares, of lives of 9 days, have this age; no stall is shut. */
    static BarterRings agedPair(int days) {
        BarterRings x = pair();
        x.life(0, 9);
        x.life(1, 9);
        for (int day = 0; day < days; day++) {
            dayWithoutShut(x);
        }
        return x;
    }

    /**
     * Four traders among whom all has happened: a shut stall, a spoilt ware, needs met, wares thrown away, a
     * stop at a refused barter, a snapshot, four states; the pad holds days.
     */
    static BarterRings worn() {
        return wornWith("dx30c");
    }

    static BarterRings wornWith(String text) {
        BarterRings x = ring(3);
        x.come(3, 3);
        write(x, "cx03d");
        x.days();
        x.life(1, 1);
        x.day();
        x.save();
        dayWithShut(x, 2);
        x.life(2, 2);
        x.want(0, 8);
        write(x, text);
        return x;
    }

    static void write(BarterRings x, String text) {
        x.clear();
        for (int place = 0; place < text.length(); place++) {
            x.append(text.charAt(place));
        }
    }

    static BarterRings written(String text) {
        BarterRings x = new BarterRings();
        write(x, text);
        return x;
    }

    /** A day passes on which this trader's stall is shut, or none, if it is the number of traders. */
    static void dayWithShut(BarterRings x, int trader) {
        int chances = Math.max(1, x.count(1) + 1);
        int lot = 0;
        while (lot < 9999 && (421 * lot + 1663) % 10000 % chances != trader) {
            lot++;
        }
        x.lot(lot);
        x.day();
    }

    static void dayWithoutShut(BarterRings x) {
        dayWithShut(x, x.count(1));
    }

    /** All that undo and restore bring back, but the number of states. */
    static String told(BarterRings x) {
        StringBuilder all = new StringBuilder();
        for (int what = 0; what < 14; what++) {
            all.append(x.count(what)).append(' ');
        }
        for (int kind = 0; kind < 6; kind++) {
            for (int what = 0; what < 6; what++) {
                all.append(x.kind(kind, what)).append(' ');
            }
        }
        for (int trader = 0; trader < x.count(1); trader++) {
            for (int what = 0; what < 10; what++) {
                all.append(x.trader(trader, what)).append(' ');
            }
        }
        return all.append(x.freshness()).toString();
    }

    /** What is told, with the pad, the number of states and why(). */
    static String allTold(BarterRings x) {
        StringBuilder all = new StringBuilder(told(x));
        int[] more = {x.count(14), x.count(15), x.fault(0), x.fault(1), x.why(0), x.why(1)};
        for (int number : more) {
            all.append(' ').append(number);
        }
        return all.toString();
    }
}
