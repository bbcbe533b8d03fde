/** Each promise of the document with ordinary inputs, the edges that it names, and wrong inputs. */
public final class PromisesTest extends Markets {
    private static final int[] FAR_OFF = {Integer.MIN_VALUE, -1000000, -2, -1, 1000000, Integer.MAX_VALUE};

    private static final Checks CHECKS = new Checks("PromisesTest");

    public static void main(String[] args) {
        constants();
        newObject();
        come();
        go();
        goOfTheFirst();
        goOfSeven();
        goWithShutStall();
        want();
        life();
        circle();
        lot();
        barterDone();
        barterRefused();
        call();
        callOrder();
        day();
        dayLots();
        append();
        clear();
        faultAsTraders();
        faultAsDays();
        traders();
        days();
        why();
        trader();
        can();
        whyNot();
        most();
        kind();
        countOfDeeds();
        countOfTraders();
        freshness();
        ifCircle();
        ifDays();
        bestWant();
        undo();
        undoOfEachChange();
        save();
        restore();
        CHECKS.end();
    }

    private static void due(String call, long got, long want) {
        CHECKS.due(call, got, want);
    }

    private static void begin(String promise) {
        CHECKS.begin(promise);
    }

    // ---- promises

    private static void constants() {
        begin("the constants");
        due("INVALID_ARGUMENT", INVALID, -1);
        due("NOT_POSSIBLE", NOT_POSSIBLE, -2);
        due("LIMIT_REACHED", LIMIT, -3);
        due("NOT_FOUND", NOT_FOUND, -4);
    }

    private static void newObject() {
        begin("1, a new object");
        BarterRings x = new BarterRings();
        int[] counts = {0, 0, 0, 0, 0, 0, 0, 0, 0, 0, 0, 7, 1, NOT_FOUND, 0, 0};
        for (int what = 0; what < counts.length; what++) {
            due("count(" + what + ")", x.count(what), counts[what]);
        }
        for (int kind = 0; kind < 6; kind++) {
            due("kind(" + kind + ", 0)", x.kind(kind, 0), 3);
            for (int what = 1; what < 6; what++) {
                due("kind(" + kind + ", " + what + ")", x.kind(kind, what), 0);
            }
        }
        CHECKS.due("freshness()", x.freshness(), 0.0);
        due("trader(0, 0)", x.trader(0, 0), INVALID);
        due("most(0)", x.most(0), 0);
        due("most(1)", x.most(1), 0);
        due("why(0)", x.why(0), NOT_FOUND);
        due("undo()", x.undo(), NOT_POSSIBLE);
        due("restore()", x.restore(), NOT_POSSIBLE);
        due("call()", x.call(), 0);
        due("day()", x.day(), 0);
        due("the stall drawn among no traders", x.count(13), NOT_FOUND);
        due("the lot", x.count(12), 2084);
    }

    private static void come() {
        begin("2, come");
        BarterRings x = new BarterRings();
        due("come(5, 63)", x.come(5, 63), 0);
        due("come(0, 0)", x.come(0, 0), 1);
        due("makes", x.trader(0, 0), 5);
        due("wants", x.trader(0, 1), 63);
        due("ware", x.trader(0, 2), 5);
        due("age", x.trader(0, 3), 0);
        due("made", x.count(7), 2);
        due("come(6, 0)", x.come(6, 0), INVALID);
        due("come(0, 64)", x.come(0, 64), INVALID);
        for (int off : FAR_OFF) {
            due("come(" + off + ", 0)", x.come(off, 0), INVALID);
            due("come(0, " + off + ")", x.come(0, off), INVALID);
        }
        due("states after the errors", x.count(15), 2);
        for (int number = 2; number < 7; number++) {
            due("come(1, 1)", x.come(1, 1), number);
        }
        due("an eighth one", x.come(1, 1), LIMIT);
        due("an eighth one, wrong", x.come(6, 1), INVALID);
        due("traders", x.count(1), 7);
        due("made at last", x.count(7), 7);
    }

    private static void go() {
        begin("3, go");
        BarterRings x = ring(4);
        due("call()", x.call(), 4);
        x.want(1, 48);
        due("go(0)", x.go(0), 1);
        due("traders", x.count(1), 3);
        due("makes of the one who is 0 now", x.trader(0, 0), 1);
        due("wants of that one", x.trader(0, 1), 48);
        due("ware of that one", x.trader(0, 2), 2);
        due("needs met of that one", x.trader(0, 6), 1);
        due("makes of the last one", x.trader(2, 0), 3);
        due("ware of the last one", x.trader(2, 2), 0);
        due("the ware goes, too", x.kind(1, 1), 0);
        due("it is not thrown away", x.count(6), 0);
        due("needs met so far stay", x.count(3), 4);
        due("needs of the kind met stay", x.kind(1, 5), 1);
        due("wares made stay", x.count(7), 4);
        due("go(3)", x.go(3), INVALID);
        for (int off : FAR_OFF) {
            due("go(" + off + ")", x.go(off), INVALID);
        }
        due("go(2)", x.go(2), 1);
        due("go(0)", x.go(0), 1);
        due("go(0)", x.go(0), 1);
        due("go(0) of nobody", x.go(0), INVALID);
        due("come after all went", x.come(4, 1), 0);
        due("needs met of the new one", x.trader(0, 6), 0);
    }

    /** What each trader has moves with the number, and nothing of the one who went is counted. */
    private static void goOfTheFirst() {
        begin("3, go, what moves with the numbers");
        BarterRings x = new BarterRings();
        x.come(5, 32);
        x.come(4, 8);
        x.lot(4);
        x.day();
        due("no shut stall", x.count(13), NOT_FOUND);
        x.come(3, 16);
        due("barter(1, 2)", x.barter(1, 2), 10);
        x.come(3, 9);
        x.go(0);
        int[][] left = {
            {4, 0, 3, 0, 3, 0, 1, 0, 1, NOT_FOUND},
            {3, 0, 4, 1, 2, 0, 1, 0, 0, NOT_FOUND},
            {3, 9, 3, 0, 3, 0, 0, 1, 0, NOT_FOUND}};
        for (int trader = 0; trader < 3; trader++) {
            for (int what = 0; what < 10; what++) {
                due("trader(" + trader + ", " + what + ")", x.trader(trader, what), left[trader][what]);
            }
        }
        x.go(2);
        due("needs", x.count(2), 0);
        due("sound wares", x.count(4), 2);
        due("wares of the kind 3", x.kind(3, 1), 1);
        due("who wants the kind 3", x.kind(3, 3), 0);
        due("who makes the kind 3", x.kind(3, 4), 1);
        due("stuck traders", x.count(10), 0);
        CHECKS.due("freshness()", x.freshness(), 5.0 / 2);
        x.life(3, 1);
        x.life(4, 1);
        due("spoilt wares", x.count(5), 1);
        due("spoilt ones of the kind 4", x.kind(4, 2), 1);
        CHECKS.due("freshness() of one ware", x.freshness(), 1.0);
    }

    private static void goOfSeven() {
        begin("3, go, of seven");
        BarterRings x = greedy(7);
        due("go(6)", x.go(6), 0);
        due("wares of the kind of the one who went", x.kind(0, 1), 1);
        due("come(3, 4)", x.come(3, 4), 6);
        due("go(0)", x.go(0), 0);
        due("traders", x.count(1), 6);
        due("makes of the last one", x.trader(5, 0), 3);
        due("wants of the last one", x.trader(5, 1), 4);
        due("trader(6, 0)", x.trader(6, 0), INVALID);
    }

    private static void goWithShutStall() {
        begin("3, go with a shut stall");
        BarterRings x = greedy(3);
        x.lot(2);
        x.day();
        due("the shut stall", x.count(13), 1);
        x.go(2);
        due("the shut stall when a greater one goes", x.count(13), 1);
        x.go(0);
        due("the shut stall when a lesser one goes", x.count(13), 0);
        due("it is that of the same trader", x.trader(0, 0), 1);
        x.come(2, 1);
        x.go(0);
        due("the shut stall when that trader goes", x.count(13), NOT_FOUND);
        due("the stall of the one who is 0 then", x.trader(0, 5), 0);
        x.undo();
        due("the shut stall after undo", x.count(13), 0);
    }

    private static void want() {
        begin("4, want");
        BarterRings x = pair();
        due("want(0, 63)", x.want(0, 63), 2);
        due("want(0, 0)", x.want(0, 0), 63);
        due("want(1, 5)", x.want(1, 5), 1);
        due("wants of 0", x.trader(0, 1), 0);
        due("wants of 1", x.trader(1, 1), 5);
        due("states", x.count(15), 4);
        due("want(2, 0)", x.want(2, 0), INVALID);
        due("want(0, 64)", x.want(0, 64), INVALID);
        for (int off : FAR_OFF) {
            due("want(" + off + ", 0)", x.want(off, 0), INVALID);
            due("want(0, " + off + ")", x.want(0, off), INVALID);
        }
        due("wants of 0 after the errors", x.trader(0, 1), 0);
        BarterRings y = pair();
        y.want(5, 1);
        due("states after an error", y.count(15), 2);
    }

    private static void life() {
        begin("5, life");
        BarterRings x = pair();
        due("life(5, 9)", x.life(5, 9), 3);
        due("life(5, 1)", x.life(5, 1), 9);
        due("life(0, 2)", x.life(0, 2), 3);
        due("the life", x.kind(0, 0), 2);
        due("another life", x.kind(1, 0), 3);
        x.lot(1);
        x.day();
        due("a ware of the age 1", x.trader(0, 4), 1);
        x.life(0, 1);
        due("the same, with the life 1", x.trader(0, 4), 0);
        due("spoilt by that", x.count(5), 1);
        x.life(0, 9);
        due("the same, with the life 9", x.trader(0, 4), 8);
        due("spoilt no more", x.count(5), 0);
        due("life(0, 0)", x.life(0, 0), INVALID);
        due("life(0, 10)", x.life(0, 10), INVALID);
        due("life(6, 1)", x.life(6, 1), INVALID);
        for (int off : FAR_OFF) {
            due("life(" + off + ", 1)", x.life(off, 1), INVALID);
            due("life(0, " + off + ")", x.life(0, off), INVALID);
        }
        due("the life after the errors", x.kind(0, 0), 9);
    }

    private static void circle() {
        begin("6, circle");
        BarterRings x = ring(3);
        due("circle(2)", x.circle(2), 7);
        due("the best barter without circles of three", x.most(1), 0);
        due("circle(3)", x.circle(3), 2);
        due("the best barter with them", x.most(1), 3);
        due("circle(7)", x.circle(7), 3);
        due("circle(1)", x.circle(1), INVALID);
        due("circle(8)", x.circle(8), INVALID);
        for (int off : FAR_OFF) {
            due("circle(" + off + ")", x.circle(off), INVALID);
        }
        due("circle(0)", x.circle(0), INVALID);
        due("CIRCLE", x.count(11), 7);
    }

    private static void lot() {
        begin("7, lot");
        BarterRings x = new BarterRings();
        due("lot(9999)", x.lot(9999), 1);
        due("lot(0)", x.lot(0), 9999);
        due("lot(10000)", x.lot(10000), INVALID);
        for (int off : FAR_OFF) {
            due("lot(" + off + ")", x.lot(off), INVALID);
        }
        due("the lot", x.count(12), 0);
        due("states", x.count(15), 2);
        x.lot(9999);
        x.day();
        due("the lot drawn from 9999", x.count(12), 1242);
    }

    private static void barterDone() {
        begin("8, barter");
        BarterRings x = new BarterRings();
        x.come(0, 2);
        x.lot(0);
        x.day();
        x.come(1, 1);
        x.come(2, 3);
        due("barter(1, 0)", x.barter(1, 0), 10);
        due("the ware of 0", x.trader(0, 2), 1);
        due("its age", x.trader(0, 3), 0);
        due("the ware of 1", x.trader(1, 2), 0);
        due("its age goes with it", x.trader(1, 3), 1);
        due("wants of 0", x.trader(0, 1), 0);
        due("wants of 1", x.trader(1, 1), 0);
        due("needs met of 0", x.trader(0, 6), 1);
        due("needs met of 1", x.trader(1, 6), 1);
        due("needs met of 2", x.trader(2, 6), 0);
        due("needs met of all", x.count(3), 2);
        due("needs met of the kind 0", x.kind(0, 5), 1);
        due("needs met of the kind 1", x.kind(1, 5), 1);
        due("refused", x.count(9), 0);
        due("market calls", x.count(8), 0);
        due("barter(0, 0)", x.barter(0, 0), INVALID);
        due("barter(0, 3)", x.barter(0, 3), INVALID);
        due("barter(3, 0)", x.barter(3, 0), INVALID);
        for (int off : FAR_OFF) {
            due("barter(" + off + ", 0)", x.barter(off, 0), INVALID);
            due("barter(0, " + off + ")", x.barter(0, off), INVALID);
        }
        due("barter(7, 7)", x.barter(7, 7), INVALID);
        due("refused, without errors", x.count(9), 0);
        BarterRings y = greedy(2);
        y.circle(2);
        due("a barter of those who want their own kind, too", y.barter(0, 1), 10);
        due("only the kind taken is wanted no more", y.trader(0, 1), 61);
        due("only the kind taken is wanted no more", y.trader(1, 1), 62);
    }

    private static void barterRefused() {
        begin("8, barter that is refused");
        BarterRings x = pair();
        x.lot(0);
        x.day();
        due("the shut stall", x.count(13), 1);
        due("with a shut stall", x.barter(0, 1), 1);
        due("with a shut stall, the other way", x.barter(1, 0), 1);
        x.life(0, 1);
        x.want(0, 0);
        x.want(1, 0);
        due("a shut stall comes first", x.barter(0, 1), 1);
        BarterRings y = pair();
        y.lot(1);
        y.day();
        due("no shut stall", y.count(13), NOT_FOUND);
        y.life(0, 1);
        y.want(0, 0);
        due("with a spoilt ware of the first one", y.barter(0, 1), 2);
        due("with a spoilt ware of the second one", y.barter(1, 0), 2);
        y.life(0, 3);
        due("the first one does not want", y.barter(0, 1), 3);
        due("the second one does not want", y.barter(1, 0), 4);
        y.want(1, 0);
        due("both do not want", y.barter(1, 0), 3);
        due("refused", y.count(9), 5);
        due("the ware stays", y.trader(0, 2), 0);
        due("needs met", y.count(3), 0);
        due("a refusal is a change", y.undo(), 3);
        due("refused before it", y.count(9), 4);
    }

    private static void call() {
        begin("9, call");
        BarterRings x = ring(3);
        due("call()", x.call(), 3);
        for (int trader = 0; trader < 3; trader++) {
            due("the ware of " + trader, x.trader(trader, 2), (trader + 1) % 3);
            due("wants of " + trader, x.trader(trader, 1), 0);
            due("needs met of " + trader, x.trader(trader, 6), 1);
            due("needs met of the kind " + trader, x.kind(trader, 5), 1);
        }
        due("call() again", x.call(), 0);
        due("market calls", x.count(8), 2);
        due("states", x.count(15), 4);
        due("call() without traders", new BarterRings().call(), 0);
        BarterRings y = new BarterRings();
        y.come(0, 2);
        y.lot(0);
        y.day();
        y.come(1, 1);
        y.call();
        due("the age goes with the ware", y.trader(1, 3), 1);
        due("the age goes with the ware", y.trader(0, 3), 0);
    }

    private static void callOrder() {
        begin("9, call, which barter is the best");
        BarterRings x = greedy(3);
        x.circle(2);
        x.call();
        due("0 takes from 1 rather than 2", x.trader(0, 2), 1);
        due("nobody comes last", x.trader(2, 6), 0);
        BarterRings y = new BarterRings();
        y.come(0, 6);
        y.come(1, 1);
        y.come(2, 9);
        y.come(3, 6);
        y.come(1, 8);
        y.come(0, 4);
        int[] givers = {1, 0, 5, 4, 3, 2};
        for (int trader = 0; trader < givers.length; trader++) {
            due("the best giver of " + trader, y.trader(trader, 9), givers[trader]);
        }
        BarterRings z = new BarterRings();
        z.come(0, 2);
        z.come(1, 5);
        z.come(2, 8);
        z.come(3, 2);
        due("more traders go ahead of the order", z.call(), 3);
        due("0 takes from nobody", z.trader(0, 6), 0);
        due("1 takes from 2", z.trader(1, 2), 2);
        due("2 takes from 3", z.trader(2, 2), 3);
        due("3 takes from 1", z.trader(3, 2), 1);
        BarterRings all = greedy(7);
        due("seven at once", all.call(), 7);
        int[] wares = {1, 0, 3, 2, 5, 0, 4};
        for (int trader = 0; trader < 7; trader++) {
            due("the ware of " + trader, all.trader(trader, 2), wares[trader]);
        }
    }

    private static void day() {
        begin("10, day");
        BarterRings x = pair();
        x.life(0, 1);
        x.call();
        due("the ware of 0", x.trader(0, 2), 1);
        due("day()", x.day(), 1);
        due("the day", x.count(0), 1);
        due("the ware of 0 ages", x.trader(0, 3), 1);
        due("the spoilt ware of 1 is made anew, of the own kind", x.trader(1, 2), 1);
        due("its age", x.trader(1, 3), 0);
        due("made", x.count(7), 3);
        due("thrown away", x.count(6), 1);
        due("day()", x.day(), 0);
        due("day() at which the life of 3 is reached", x.day(), 1);
        due("the ware of 0", x.trader(0, 2), 0);
        due("thrown away", x.count(6), 2);
        due("made", x.count(7), 4);
        BarterRings y = pair();
        y.life(0, 9);
        for (int day = 1; day < 9; day++) {
            y.day();
        }
        due("the age after eight days", y.trader(0, 3), 8);
        due("days left", y.trader(0, 4), 1);
        due("the ninth day", y.day(), 2);
        due("the age then", y.trader(0, 3), 0);
        due("needs are not met by days", y.count(3), 0);
    }

    private static void dayLots() {
        begin("10, day, the lots");
        BarterRings x = pair();
        due("no stall is shut on the day 0", x.count(13), NOT_FOUND);
        int[] lots = {2084, 9027, 2030, 6293};
        int[] shut = {NOT_FOUND, 0, NOT_FOUND, NOT_FOUND};
        for (int day = 0; day < 4; day++) {
            x.day();
            due("the lot", x.count(12), lots[day]);
            due("the stall", x.count(13), shut[day]);
        }
        int[] byLot = {1, NOT_FOUND, 0};
        for (int lot = 0; lot < 3; lot++) {
            x.lot(lot);
            x.day();
            due("the stall drawn from the lot " + lot, x.count(13), byLot[lot]);
            due("stall of 0", x.trader(0, 5), byLot[lot] == 0 ? 1 : 0);
            due("stall of 1", x.trader(1, 5), byLot[lot] == 1 ? 1 : 0);
        }
        x.lot(1);
        x.day();
        x.come(2, 0);
        due("one who comes on a day without a shut stall", x.trader(2, 5), 0);
        due("no stall is shut still", x.count(13), NOT_FOUND);
    }

    private static void append() {
        begin("11, append");
        BarterRings x = new BarterRings();
        due("append(33)", x.append(33), 1);
        due("append(126)", x.append(126), 2);
        due("append(32)", x.append(32), INVALID);
        due("append(127)", x.append(127), INVALID);
        for (int off : FAR_OFF) {
            due("append(" + off + ")", x.append(off), INVALID);
        }
        due("append(65536 + 99)", x.append(65536 + 99), INVALID);
        for (int length = 3; length <= 60; length++) {
            due("append('c')", x.append('c'), length);
        }
        due("append beyond 60", x.append('c'), LIMIT);
        due("append of a wrong one beyond 60", x.append(32), INVALID);
        due("the length", x.count(14), 60);
        due("append is no change", x.count(15), 0);
    }

    private static void clear() {
        begin("12, clear");
        BarterRings x = new BarterRings();
        due("clear() of nothing", x.clear(), 0);
        write(x, "cdc");
        due("clear()", x.clear(), 3);
        due("clear() again", x.clear(), 0);
        due("the length", x.count(14), 0);
        due("the fault then", x.fault(1), 0);
        due("clear is no change", x.count(15), 0);
    }

    private static void fault(String text, int way, int want) {
        BarterRings x = new BarterRings();
        write(x, text);
        due("fault(" + way + ") of " + text, x.fault(way), want);
        due("the length afterwards", x.count(14), text.length());
    }

    private static void faultAsTraders() {
        begin("13, fault as traders");
        fault("", 0, 0);
        fault("6", 0, 0);
        fault("/", 0, 0);
        fault(",", 0, 0);
        fault(">", 0, 0);
        fault("0", 0, 1);
        fault("00", 0, 1);
        fault("0,", 0, 1);
        fault("5>", 0, 2);
        fault("5>,", 0, 2);
        fault("5>6", 0, 2);
        fault("5>>", 0, 2);
        fault("5>0", 0, NOT_FOUND);
        fault("0>012345", 0, NOT_FOUND);
        fault("0>0123455", 0, 8);
        fault("0>5", 0, NOT_FOUND);
        fault("0>56", 0, 3);
        fault("0>11", 0, 3);
        fault("0>21", 0, 3);
        fault("0>02,", 0, 5);
        fault("0>02,,", 0, 5);
        fault("0>02,3", 0, 6);
        fault("0>02>", 0, 4);
        fault("0>5,0>0", 0, NOT_FOUND);
        fault("0>5,0>0c", 0, 7);
        fault("0>1,1>1,2>1,3>1,4>1,5>1,0>1,1>1", 0, NOT_FOUND);
        BarterRings x = new BarterRings();
        due("fault(2)", x.fault(2), INVALID);
        for (int off : FAR_OFF) {
            due("fault(" + off + ")", x.fault(off), INVALID);
        }
        StringBuilder full = new StringBuilder();
        for (int part = 0; part < 15; part++) {
            full.append("3>4,");
        }
        fault(full.toString(), 0, 60);
        full.setCharAt(59, '5');
        fault(full.toString(), 0, NOT_FOUND);
    }

    private static void faultAsDays() {
        begin("13, fault as days");
        fault("", 1, 0);
        fault("c", 1, NOT_FOUND);
        fault("d", 1, NOT_FOUND);
        fault("e", 1, 0);
        fault("b", 1, 0);
        fault("0", 1, 0);
        fault("x", 1, 1);
        fault("xx", 1, 1);
        fault("x7", 1, 1);
        fault("x/", 1, 1);
        fault("x0", 1, 2);
        fault("x00", 1, 2);
        fault("x66", 1, 2);
        fault("x07", 1, 2);
        fault("x0/", 1, 2);
        fault("x0d", 1, 2);
        fault("x06", 1, NOT_FOUND);
        fault("x60", 1, NOT_FOUND);
        fault("x012", 1, 3);
        fault("x01x", 1, 4);
        fault("x01x10", 1, NOT_FOUND);
        fault("cdx01dcC", 1, 7);
        fault("0>1", 1, 0);
        fault("c", 0, 0);
    }

    private static void traders() {
        begin("14, traders");
        BarterRings x = new BarterRings();
        due("traders() of an empty pad", x.traders(), NOT_POSSIBLE);
        x.come(5, 0);
        write(x, "0>12,4>5");
        due("traders()", x.traders(), 3);
        due("the length then", x.count(14), 0);
        due("one change", x.count(15), 2);
        due("makes of 1", x.trader(1, 0), 0);
        due("wants of 1", x.trader(1, 1), 6);
        due("ware of 1", x.trader(1, 2), 0);
        due("makes of 2", x.trader(2, 0), 4);
        due("wants of 2", x.trader(2, 1), 32);
        due("age of 2", x.trader(2, 3), 0);
        due("made", x.count(7), 3);
        write(x, "0>1,1>1,2>1,3>1,4>1");
        due("traders() beyond 7", x.traders(), LIMIT);
        due("the pad stays", x.count(14), 19);
        due("the states stay", x.count(15), 2);
        due("the traders stay", x.count(1), 3);
        x.append(',');
        due("a fault is told ahead of the limit", x.traders(), NOT_POSSIBLE);
        due("the pad stays", x.count(14), 20);
        write(x, "0>1,1>1,2>1,3>012345");
        due("traders() up to 7", x.traders(), 7);
        due("wants of the last one", x.trader(6, 1), 63);
        write(x, "0>1");
        due("traders() of one more", x.traders(), LIMIT);
        x.undo();
        due("traders after undo", x.count(1), 3);
        due("the pad after undo", x.count(14), 3);
    }

    private static void days() {
        begin("15, days");
        BarterRings x = pair();
        due("days() of an empty pad", x.days(), NOT_POSSIBLE);
        write(x, "x0");
        due("days() of a pad with a fault", x.days(), NOT_POSSIBLE);
        due("the pad stays", x.count(14), 2);
        due("the states stay", x.count(15), 2);
        write(x, "ddc");
        due("days()", x.days(), 0);
        due("market calls", x.count(8), 1);
        due("the stall that is shut", x.count(13), 0);
        due("the day", x.count(0), 2);
        due("one change", x.count(15), 3);
        due("the length then", x.count(14), 0);
        write(x, "dcd");
        due("days() with a call that barters", x.days(), 2);
        due("the day", x.count(0), 4);
        x.undo();
        due("the day after undo", x.count(0), 2);
        x.undo();
        due("the day after undo", x.count(0), 0);

        BarterRings y = ring(3);
        y.want(0, 6);
        y.want(1, 5);
        write(y, "x01cx01d");
        due("days() up to a refusal", y.days(), 4);
        due("refused", y.count(9), 1);
        due("the day", y.count(0), 0);
        due("market calls", y.count(8), 1);
        write(y, "dx03d");
        due("days() up to a barter without its traders", y.days(), 0);
        due("refused stay", y.count(9), 1);
        due("the day", y.count(0), 1);
        due("the pad is emptied", y.count(14), 0);

        BarterRings z = new BarterRings();
        write(z, "x01");
        due("days() in which nothing is done", z.days(), 0);
        due("is one change, too", z.count(15), 1);
        due("refused", z.count(9), 0);
    }

    private static void why() {
        begin("16, why");
        BarterRings x = pair();
        due("why(0) without days()", x.why(0), NOT_FOUND);
        due("why(2)", x.why(2), INVALID);
        for (int off : FAR_OFF) {
            due("why(" + off + ")", x.why(off), INVALID);
        }
        write(x, "x01cx10");
        x.days();
        due("why(0)", x.why(0), 3);
        due("why(1)", x.why(1), 4);
        due("why(2) with a reason", x.why(2), INVALID);
        write(x, "x");
        x.days();
        due("why(0) after an error of days()", x.why(0), 3);
        x.undo();
        due("why(0) after undo", x.why(0), 3);
        x.save();
        write(x, "x02");
        x.days();
        due("why(0) of traders who are not there", x.why(0), INVALID);
        due("why(1) of them", x.why(1), 0);
        x.restore();
        due("why(1) after restore", x.why(1), 0);
        write(x, "x31");
        x.days();
        due("why(0) of a first one who is not there", x.why(0), INVALID);
        write(x, "x10");
        due("days() of all", x.days(), 2);
        due("why(0) when all was done", x.why(0), NOT_FOUND);
        due("why(1) when all was done", x.why(1), NOT_FOUND);
        x.want(0, 1);
        write(x, "x01");
        x.days();
        due("why(0), the second one does not want", x.why(0), 4);
        x.lot(0);
        write(x, "dx01");
        x.days();
        due("why(0), a shut stall", x.why(0), 1);
        due("why(1)", x.why(1), 1);
        x.life(0, 1);
        x.life(1, 1);
        x.undo();
        x.lot(1);
        x.life(0, 9);
        write(x, "dc");
        x.days();
        x.life(0, 1);
        write(x, "x01");
        x.days();
        due("why(0), a spoilt ware", x.why(0), 2);
    }

    private static void trader() {
        begin("17, trader");
        BarterRings x = ring(3);
        x.want(0, 6);
        x.come(3, 0);
        int[][] first = {
            {0, 6, 0, 0, 3, 0, 0, 2, 1, 1},
            {1, 4, 1, 0, 3, 0, 0, 1, 1, 2},
            {2, 1, 2, 0, 3, 0, 0, 1, 2, 0},
            {3, 0, 3, 0, 3, 0, 0, 0, 0, NOT_FOUND}};
        for (int trader = 0; trader < 4; trader++) {
            for (int what = 0; what < 10; what++) {
                due("trader(" + trader + ", " + what + ")", x.trader(trader, what), first[trader][what]);
            }
            due("trader(" + trader + ", 10)", x.trader(trader, 10), INVALID);
            for (int off : FAR_OFF) {
                due("trader(" + trader + ", " + off + ")", x.trader(trader, off), INVALID);
                due("trader(" + off + ", 0)", x.trader(off, 0), INVALID);
            }
        }
        due("trader(4, 0)", x.trader(4, 0), INVALID);
        due("states", x.count(15), 4);
        x.call();
        due("the ware that was taken", x.trader(0, 2), 1);
        due("the kind that is made stays", x.trader(0, 0), 0);
        due("wants of 0", x.trader(0, 1), 4);
        due("needs met", x.trader(0, 6), 1);
        x.lot(1);
        x.day();
        due("no shut stall", x.count(13), NOT_FOUND);
        x.life(1, 1);
        due("days left of a spoilt ware", x.trader(0, 4), 0);
        due("age of it", x.trader(0, 3), 1);
        x.life(1, 5);
        due("days left with a longer life", x.trader(0, 4), 4);
        BarterRings y = pair();
        y.lot(2);
        y.day();
        due("a shut stall", y.trader(0, 5), 1);
        due("an open stall", y.trader(1, 5), 0);
        due("takers of one whose stall is shut", y.trader(0, 8), 0);
        due("givers of the other one", y.trader(1, 7), 0);
        due("the best giver then", y.trader(1, 9), NOT_FOUND);
    }

    private static void can() {
        begin("18, can");
        BarterRings x = new BarterRings();
        x.come(0, 2);
        x.come(1, 2);
        x.come(1, 1);
        due("can(0, 1)", x.can(0, 1), 1);
        due("can(0, 2)", x.can(0, 2), 1);
        due("can(1, 0)", x.can(1, 0), 0);
        due("can(2, 0)", x.can(2, 0), 1);
        due("can(1, 2), of the kind that the taker has", x.can(1, 2), 1);
        due("can(1, 1)", x.can(1, 1), INVALID);
        due("can(3, 0)", x.can(3, 0), INVALID);
        due("can(0, 3)", x.can(0, 3), INVALID);
        for (int off : FAR_OFF) {
            due("can(" + off + ", 0)", x.can(off, 0), INVALID);
            due("can(0, " + off + ")", x.can(0, off), INVALID);
        }
        x.lot(1);
        x.day();
        due("the shut stall", x.count(13), 0);
        due("a taker whose stall is shut", x.can(0, 1), 0);
        due("a giver whose stall is shut", x.can(2, 0), 0);
        due("others", x.can(1, 2), 1);
        x.lot(0);
        x.day();
        due("no shut stall", x.count(13), NOT_FOUND);
        x.life(0, 2);
        due("a taker with a spoilt ware", x.can(0, 1), 0);
        due("a giver with a spoilt ware", x.can(2, 0), 0);
        x.life(0, 3);
        due("a taker with a sound ware", x.can(0, 1), 1);
    }

    private static void whyNot() {
        begin("19, whyNot");
        BarterRings x = pair();
        due("whyNot(0, 1)", x.whyNot(0, 1), 0);
        due("whyNot(1, 0)", x.whyNot(1, 0), 0);
        x.want(0, 0);
        due("the first one does not want", x.whyNot(0, 1), 3);
        due("the second one does not want", x.whyNot(1, 0), 4);
        x.want(1, 0);
        due("both do not want", x.whyNot(1, 0), 3);
        x.lot(1);
        x.day();
        x.life(1, 1);
        due("the second one's ware is spoilt", x.whyNot(0, 1), 2);
        due("the first one's ware is spoilt", x.whyNot(1, 0), 2);
        x.life(1, 3);
        x.lot(0);
        x.day();
        x.life(0, 1);
        due("the second one's stall is shut", x.whyNot(0, 1), 1);
        due("the first one's stall is shut", x.whyNot(1, 0), 1);
        due("nothing is refused", x.count(9), 0);
        due("whyNot(0, 0)", x.whyNot(0, 0), INVALID);
        due("whyNot(0, 2)", x.whyNot(0, 2), INVALID);
        due("whyNot(2, 0)", x.whyNot(2, 0), INVALID);
        for (int off : FAR_OFF) {
            due("whyNot(" + off + ", 0)", x.whyNot(off, 0), INVALID);
            due("whyNot(0, " + off + ")", x.whyNot(0, off), INVALID);
        }
    }

    private static void mostBoth(String told, BarterRings x, int want) {
        due("most(0) " + told, x.most(0), want);
        due("most(1) " + told, x.most(1), want);
    }

    private static void most() {
        begin("20, most");
        mostBoth("of nobody", new BarterRings(), 0);
        mostBoth("of a pair", pair(), 2);
        for (int traders = 3; traders <= 6; traders++) {
            BarterRings x = ring(traders);
            mostBoth("of a ring of " + traders, x, traders);
            x.circle(traders - 1);
            mostBoth("of a ring of " + traders + ", longer than CIRCLE", x, 0);
        }
        BarterRings greedy = greedy(7);
        mostBoth("of seven who want all", greedy, 7);
        greedy.circle(2);
        mostBoth("of seven, two and two", greedy, 6);
        greedy.circle(3);
        mostBoth("of seven, three and two and two", greedy, 7);
        BarterRings x = new BarterRings();
        x.come(0, 2);
        x.come(1, 5);
        x.come(2, 8);
        x.come(3, 2);
        mostBoth("of a pair and a ring of three with one in both", x, 3);
        x.circle(2);
        mostBoth("of the pair alone", x, 2);
        BarterRings self = new BarterRings();
        self.come(0, 1);
        mostBoth("of one who wants the own kind", self, 0);
        due("most(2)", x.most(2), INVALID);
        for (int off : FAR_OFF) {
            due("most(" + off + ")", x.most(off), INVALID);
        }
        due("states", self.count(15), 1);
    }

    private static void kind() {
        begin("21, kind");
        BarterRings x = new BarterRings();
        x.come(0, 6);
        x.come(0, 2);
        x.come(1, 3);
        x.lot(0);
        x.day();
        due("no shut stall", x.count(13), NOT_FOUND);
        x.come(0, 4);
        int[][] due = {{3, 3, 0, 1, 3, 0}, {3, 1, 0, 3, 1, 0}, {3, 0, 0, 2, 0, 0}};
        for (int kind = 0; kind < 3; kind++) {
            for (int what = 0; what < 6; what++) {
                due("kind(" + kind + ", " + what + ")", x.kind(kind, what), due[kind][what]);
            }
        }
        x.life(0, 1);
        due("its life", x.kind(0, 0), 1);
        due("wares of it, with the spoilt ones", x.kind(0, 1), 3);
        due("the spoilt ones", x.kind(0, 2), 2);
        due("of another kind", x.kind(1, 2), 0);
        x.life(0, 3);
        due("barter(2, 1)", x.barter(2, 1), 10);
        due("needs of the kind 0 met", x.kind(0, 5), 1);
        due("needs of the kind 1 met", x.kind(1, 5), 1);
        due("who wants the kind 1 still", x.kind(1, 3), 2);
        due("wares of the kind 1", x.kind(1, 1), 1);
        due("who makes the kind 1", x.kind(1, 4), 1);
        due("kind(5, 0)", x.kind(5, 0), 3);
        due("kind(6, 0)", x.kind(6, 0), INVALID);
        due("kind(0, 6)", x.kind(0, 6), INVALID);
        for (int off : FAR_OFF) {
            due("kind(" + off + ", 0)", x.kind(off, 0), INVALID);
            due("kind(0, " + off + ")", x.kind(0, off), INVALID);
        }
    }

    private static void countAll(BarterRings x, int[] counts) {
        for (int what = 0; what < counts.length; what++) {
            due("count(" + what + ")", x.count(what), counts[what]);
        }
    }

    private static void countOfDeeds() {
        begin("22, count, deeds");
        BarterRings x = pair();
        x.want(0, 6);
        write(x, "cd");
        countAll(x, new int[] {0, 2, 3, 0, 2, 0, 0, 2, 0, 0, 0, 7, 1, NOT_FOUND, 2, 3});
        x.call();
        countAll(x, new int[] {0, 2, 1, 2, 2, 0, 0, 2, 1, 0, 1, 7, 1, NOT_FOUND, 2, 4});
        x.barter(0, 1);
        x.circle(4);
        x.lot(2);
        x.day();
        countAll(x, new int[] {1, 2, 1, 2, 2, 0, 0, 2, 1, 1, 1, 4, 2505, 0, 2, 4});
        x.life(0, 1);
        due("sound wares", x.count(4), 1);
        due("spoilt wares", x.count(5), 1);
        x.day();
        due("thrown away", x.count(6), 1);
        due("made", x.count(7), 3);
        due("spoilt wares", x.count(5), 0);
        due("count(16)", x.count(16), INVALID);
        for (int off : FAR_OFF) {
            due("count(" + off + ")", x.count(off), INVALID);
        }
    }

    private static void countOfTraders() {
        begin("22, count, stuck traders");
        BarterRings x = new BarterRings();
        x.come(0, 1);
        due("one who wants the own kind is stuck", x.count(10), 1);
        x.come(1, 0);
        due("one who wants nothing is not", x.count(10), 1);
        x.come(0, 2);
        due("the first one can take from the third one", x.count(10), 0);
        x.life(0, 1);
        x.lot(0);
        x.day();
        due("no shut stall", x.count(13), NOT_FOUND);
        due("the wares are made anew", x.count(10), 0);
        x.life(1, 1);
        due("the ware that is wanted is spoilt", x.count(10), 1);
        x.life(1, 3);
        due("and is not", x.count(10), 0);
        x.lot(2);
        x.day();
        due("the shut stall", x.count(13), 1);
        due("the stall of the wanted ware is shut", x.count(10), 1);
        due("needs of all together", x.count(2), 2);
    }

    private static void freshness() {
        begin("23, freshness");
        BarterRings x = pair();
        CHECKS.due("freshness()", x.freshness(), 3.0);
        x.life(0, 8);
        CHECKS.due("freshness() with a longer life", x.freshness(), 11.0 / 2);
        x.come(2, 0);
        CHECKS.due("freshness() of three", x.freshness(), 14.0 / 3);
        x.day();
        CHECKS.due("freshness() after a day", x.freshness(), 11.0 / 3);
        x.life(1, 1);
        CHECKS.due("freshness() without the spoilt one", x.freshness(), 9.0 / 2);
        x.life(0, 1);
        x.life(2, 1);
        CHECKS.due("freshness() with spoilt ones alone", x.freshness(), 0.0);
    }

    private static void ifCircle() {
        begin("24, ifCircle");
        BarterRings x = ring(5);
        x.want(0, 18);
        x.circle(3);
        int[] most = {2, 2, 2, 5, 5, 5};
        x.want(4, 1);
        for (int length = 2; length <= 7; length++) {
            due("ifCircle(" + length + ")", x.ifCircle(length), most[length - 2]);
        }
        due("CIRCLE stays", x.count(11), 3);
        due("most(0) stays", x.most(0), 2);
        due("states", x.count(15), 4);
        due("ifCircle(1)", x.ifCircle(1), INVALID);
        due("ifCircle(8)", x.ifCircle(8), INVALID);
        for (int off : FAR_OFF) {
            due("ifCircle(" + off + ")", x.ifCircle(off), INVALID);
        }
        due("ifCircle(2) without traders", new BarterRings().ifCircle(2), 0);
    }

    private static void ifDays() {
        begin("25, ifDays");
        BarterRings x = pair();
        x.want(0, 38);
        due("needs met on one day", x.ifDays(1, 0), 2);
        due("wares thrown away on one day", x.ifDays(1, 1), 0);
        due("needs still after one day", x.ifDays(1, 2), 2);
        due("wares thrown away in two days", x.ifDays(2, 1), 0);
        due("wares thrown away in three days", x.ifDays(3, 1), 2);
        due("wares thrown away in twenty days", x.ifDays(20, 1), 12);
        due("needs still after twenty days", x.ifDays(20, 2), 2);
        due("the day stays", x.count(0), 0);
        due("the wares stay", x.trader(0, 2), 0);
        due("the calls stay", x.count(8), 0);
        due("the lot stays", x.count(12), 1);
        due("states", x.count(15), 3);
        x.call();
        x.day();
        x.day();
        x.day();
        due("what was is not counted: needs met", x.ifDays(1, 0), 0);
        due("what was is not counted: wares", x.ifDays(1, 1), 0);
        BarterRings y = greedy(2);
        y.life(0, 1);
        y.life(1, 1);
        due("first the call, then the day", y.ifDays(1, 0), 2);
        due("with wares made anew by the own kinds", y.ifDays(2, 0), 2);
        due("wares thrown away each day", y.ifDays(5, 1), 10);
        int[][] wrong = {{0, 0}, {21, 0}, {1, 3}, {0, 3}};
        for (int[] of : wrong) {
            due("ifDays(" + of[0] + ", " + of[1] + ")", x.ifDays(of[0], of[1]), INVALID);
        }
        for (int off : FAR_OFF) {
            due("ifDays(" + off + ", 0)", x.ifDays(off, 0), INVALID);
            due("ifDays(1, " + off + ")", x.ifDays(1, off), INVALID);
        }
        due("ifDays(20, 0) without traders", new BarterRings().ifDays(20, 0), 0);
    }

    private static void bestWant() {
        begin("26, bestWant");
        BarterRings x = new BarterRings();
        x.come(0, 0);
        x.come(3, 1);
        x.come(4, 1);
        due("the least of those with the most", x.bestWant(0), 3);
        x.want(0, 8);
        due("a kind that is wanted is not told, though none is better", x.bestWant(0), 0);
        x.want(1, 0);
        due("with 4, two barter; without, nobody", x.bestWant(0), 4);
        due("the wants stay", x.trader(0, 1), 8);
        x.want(1, 16);
        x.want(0, 0);
        due("a longer circle is better", x.bestWant(0), 3);
        x.circle(2);
        due("not beyond CIRCLE", x.bestWant(0), 4);
        x.want(0, 63);
        due("all are wanted", x.bestWant(0), NOT_FOUND);
        x.want(0, 62);
        due("one is left", x.bestWant(0), 0);
        x.want(0, 31);
        due("the last one is left", x.bestWant(0), 5);
        due("bestWant(3)", x.bestWant(3), INVALID);
        for (int off : FAR_OFF) {
            due("bestWant(" + off + ")", x.bestWant(off), INVALID);
        }
        BarterRings alone = new BarterRings();
        alone.come(2, 0);
        due("of one alone, the least", alone.bestWant(0), 0);
        due("states", alone.count(15), 1);
    }

    private static void undo() {
        begin("27, undo");
        BarterRings x = new BarterRings();
        due("undo() of nothing", x.undo(), NOT_POSSIBLE);
        for (int kind = 0; kind < 6; kind++) {
            x.come(kind, 0);
            due("states", x.count(15), Math.min(kind + 1, 4));
        }
        write(x, "cd");
        x.save();
        for (int states = 3; states >= 0; states--) {
            due("undo()", x.undo(), states);
            due("traders", x.count(1), states + 2);
        }
        due("undo() of more than four", x.undo(), NOT_POSSIBLE);
        due("traders", x.count(1), 2);
        due("the pad stays", x.count(14), 2);
        due("the snapshot stays", x.restore(), 0);
        due("traders of the snapshot", x.count(1), 6);
        due("a restore is a change", x.undo(), 0);
        due("traders before restore", x.count(1), 2);
        x.come(3, 3);
        x.undo();
        x.come(4, 4);
        due("a change after undo", x.count(15), 1);
        due("makes", x.trader(2, 0), 4);
        x.undo();
        due("traders", x.count(1), 2);
        BarterRings y = pair();
        y.want(0, 2);
        y.want(0, 2);
        due("a change that changes nothing counts", y.undo(), 3);
        y.append('c');
        y.go(7);
        y.fault(1);
        y.most(0);
        y.ifDays(3, 0);
        y.save();
        y.clear();
        due("errors, looks, texts and save are no changes", y.count(15), 3);
    }

    private static void undoOfEachChange() {
        begin("27, undo of each change");
        for (int change = 0; change < 12; change++) {
            BarterRings x = ring(3);
            x.want(1, 13);
            x.barter(0, 1);
            x.lot(3);
            x.day();
            x.save();
            x.life(4, 4);
            String before = told(x);
            doChange(x, change);
            due("states after the change " + change, x.count(15), 4);
            x.undo();
            CHECKS.tell(told(x).equals(before), "undo of the change " + change + " left " + told(x) + ", due is " + before);
        }
    }

    private static void doChange(BarterRings x, int change) {
        switch (change) {
            case 0: x.come(3, 3); break;
            case 1: x.go(1); break;
            case 2: x.want(2, 33); break;
            case 3: x.life(1, 9); break;
            case 4: x.barter(0, 1); break;
            case 5: x.call(); break;
            case 6: x.day(); break;
            case 7: x.circle(2); break;
            case 8: x.lot(77); break;
            case 9: write(x, "3>45,0>1"); x.traders(); break;
            case 10: write(x, "ddddcx01"); x.days(); break;
            default: x.restore(); break;
        }
    }

    private static void save() {
        begin("28, save");
        BarterRings x = ring(3);
        due("save()", x.save(), 0);
        x.day();
        x.day();
        due("save() of a later day", x.save(), 2);
        due("save is no change", x.count(15), 4);
        x.day();
        due("the later snapshot is in place of the first one", x.restore(), 2);
        BarterRings y = pair();
        write(y, "x01x01");
        y.days();
        y.append('c');
        y.save();
        y.append('d');
        y.restore();
        due("the pad is no part of it", y.count(14), 2);
        due("why() is no part of it", y.why(1), 3);
    }

    private static void restore() {
        begin("29, restore");
        BarterRings none = ring(3);
        due("restore() of nothing", none.restore(), NOT_POSSIBLE);
        due("is no change", none.count(15), 3);
        for (int change = 0; change < 11; change++) {
            BarterRings x = saved();
            String before = told(x);
            doChange(x, change);
            due("restore()", x.restore(), 1);
            CHECKS.tell(told(x).equals(before), "restore after the change " + change + " left " + told(x) + ", due is " + before);
            due("the history goes on", x.count(15), 4);
        }
        BarterRings x = saved();
        x.day();
        x.restore();
        due("undo() of restore()", x.undo(), 3);
        due("the day before it", x.count(0), 2);
        due("the snapshot stays", x.restore(), 1);
    }

    /** A market with a snapshot in which everything is otherwise than at first. */
    private static BarterRings saved() {
        BarterRings x = ring(3);
        x.life(2, 7);
        x.circle(5);
        x.lot(3);
        x.want(1, 13);
        due("barter(0, 1)", x.barter(0, 1), 10);
        x.day();
        due("barter(0, 1) again", x.barter(0, 1), 3);
        x.save();
        return x;
    }
}
