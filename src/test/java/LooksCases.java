import java.util.function.ToIntFunction;

/** The boundary cases of the promises 17 to 26: the looks, and what would be. */
final class LooksCases extends CaseBook {
    @Override
    void cases() {
        traderArguments();
        traderWares();
        traderDeeds();
        can();
        whyNot();
        most();
        mostAgain();
        kindArguments();
        kindNumbers();
        countArguments();
        countOfTraders();
        countOfAccounts();
        countOfSettings();
        freshness();
        ifCircle();
        ifDaysArguments();
        ifDays();
        bestWant();
        bestWantOfSeveral();
    }

    /** Seven traders who all make the kind 3 and have no other wants than these. */
    private static BarterRings alike(int wants) {
        BarterRings x = new BarterRings();
        for (int trader = 0; trader < 7; trader++) {
            x.come(3, wants);
        }
        return x;
    }

    private static BarterRings allSpoilt() {
        BarterRings x = alike(8);
        x.life(3, 2);
        dayWithoutShut(x);
        x.life(3, 1);
        return x;
    }

    private static BarterRings shutOf(BarterRings x, int shut) {
        dayWithShut(x, shut);
        return x;
    }

    private static BarterRings lifeOf(BarterRings x, int kind, int life) {
        x.life(kind, life);
        return x;
    }

    private static BarterRings circleOf(BarterRings x, int circle) {
        x.circle(circle);
        return x;
    }

    private static BarterRings wantOf(BarterRings x, int trader, int wants) {
        x.want(trader, wants);
        return x;
    }

    private static BarterRings called(BarterRings x) {
        x.call();
        return x;
    }

    // ---- 17, trader

    private void traderArguments() {
        invalidOutside("17 trader: the number", 0, 3, (x, trader) -> x.trader(trader, 0));
        invalidOutside("17 trader: what", 0, 9, (x, what) -> x.trader(1, what));
        unchanged("17 trader: no trader at all", BarterRings::new, x -> x.trader(0, 0), INVALID);
        unchanged("17 trader: the number 7 of seven", () -> idle(7), x -> x.trader(7, 0), INVALID);
        unchanged("17 trader: a wrong number is told rather than NOT_FOUND",
            () -> idle(1), x -> x.trader(1, 9), INVALID);
        unchanged("17 trader: both arguments are wrong", Markets::worn, x -> x.trader(4, 10), INVALID);
        int[] first = {0, 8, 0, 1, 2, 0, 1, 1, 1, 3};
        int[] last = {3, 3, 3, 2, 1, 0, 0, 1, 1, 0};
        for (int what = 0; what < 10; what++) {
            int one = what;
            unchanged("17 trader: what " + what + " of the trader 0, the least", Markets::worn,
                x -> x.trader(0, one), first[what]);
            unchanged("17 trader: what " + what + " of the trader 3, the greatest", Markets::worn,
                x -> x.trader(3, one), last[what]);
        }
    }

    private void traderWares() {
        answers("17 trader: makes the kind 5, has the kind 0, which was taken", () -> {
            BarterRings x = new BarterRings();
            x.come(5, 1);
            x.come(0, 32);
            return called(x);
        }, x -> x.trader(0, 0), 5, x -> x.trader(0, 2), 0);
        answers("17 trader: wants no kind", () -> idle(1), x -> x.trader(0, 1), 0);
        answers("17 trader: wants all kinds", () -> greedy(1), x -> x.trader(0, 1), 63);
        answers("17 trader: a ware of the age 0, the least", () -> idle(1), x -> x.trader(0, 3), 0);
        answers("17 trader: a ware of the age 8, the greatest",
            () -> aged(8), x -> x.trader(0, 3), 8, x -> x.trader(0, 4), 1);
        answers("17 trader: a ware that is spoilt in 9 days, the most", () -> aged(0), x -> x.trader(0, 4), 9);
        answers("17 trader: a ware that is spoilt in 1 day, the least",
            () -> lifeOf(idle(1), 0, 1), x -> x.trader(0, 4), 1);
        answers("17 trader: a ware whose age is its life", () -> lifeOf(aged(8), 0, 8), x -> x.trader(0, 4), 0);
        answers("17 trader: a ware whose age is more than its life",
            () -> lifeOf(aged(8), 0, 1), x -> x.trader(0, 4), 0);
        answers("17 trader: a spoilt ware has its kind and its age still", () -> lifeOf(aged(8), 0, 1),
            x -> x.trader(0, 2), 0, x -> x.trader(0, 3), 8);
        answers("17 trader: no stall is shut on the day 0", () -> idle(7), x -> x.trader(0, 5), 0);
        answers("17 trader: the first one's stall is shut",
            () -> shutOf(idle(7), 0), x -> x.trader(0, 5), 1, x -> x.trader(1, 5), 0);
        answers("17 trader: the last one's stall is shut",
            () -> shutOf(idle(7), 6), x -> x.trader(6, 5), 1, x -> x.trader(5, 5), 0);
        answers("17 trader: no stall is shut by lot",
            () -> shutOf(idle(7), 7), x -> x.trader(0, 5), 0, x -> x.trader(6, 5), 0);
    }

    private void traderDeeds() {
        answers("17 trader: no need met so far", () -> greedy(7), x -> x.trader(0, 6), 0);
        answers("17 trader: a need met by a market call",
            () -> called(pair()), x -> x.trader(0, 6), 1, x -> x.trader(1, 6), 1);
        answers("17 trader: needs of two barters met", () -> called(called(greedy(2))), x -> x.trader(0, 6), 2);
        answers("17 trader: can take from nobody", () -> idle(7), x -> x.trader(0, 7), 0, x -> x.trader(0, 8), 0);
        answers("17 trader: can take from all six others, and they from this one", () -> alike(8),
            x -> x.trader(0, 7), 6, x -> x.trader(6, 8), 6);
        answers("17 trader: cannot take from itself",
            () -> wantOf(idle(1), 0, 1), x -> x.trader(0, 7), 0, x -> x.trader(0, 8), 0);
        answers("17 trader: can take from six, of whom none can take", () -> wantOf(alike(0), 6, 8),
            x -> x.trader(6, 7), 6, x -> x.trader(6, 8), 0);
        answers("17 trader: none, if the stall is shut",
            () -> shutOf(alike(8), 6), x -> x.trader(6, 7), 0, x -> x.trader(6, 8), 0);
        answers("17 trader: one less, if another one's stall is shut", () -> shutOf(alike(8), 6),
            x -> x.trader(0, 7), 5, x -> x.trader(0, 8), 5);
        answers("17 trader: none, if all wares are spoilt",
            LooksCases::allSpoilt, x -> x.trader(0, 7), 0, x -> x.trader(0, 8), 0);
        answers("17 trader: takes from nobody in the best barter, alone",
            () -> greedy(1), x -> x.trader(0, 9), NOT_FOUND);
        answers("17 trader: takes from nobody in the best barter of others", () -> circleOf(greedy(3), 2),
            x -> x.trader(2, 9), NOT_FOUND, x -> x.trader(0, 9), 1);
        answers("17 trader: takes from 0, the least, in the best barter", Markets::pair, x -> x.trader(1, 9), 0);
        answers("17 trader: takes from 6, the greatest, in the best barter", () -> greedy(7), x -> x.trader(5, 9), 6);
        answers("17 trader: can take, but is in no circle",
            () -> wantOf(pair(), 1, 0), x -> x.trader(0, 9), NOT_FOUND, x -> x.trader(0, 7), 1);
    }

    // ---- 18 and 19

    private void can() {
        invalidOutside("18 can: the taker", 0, 3, (x, taker) -> x.can(taker, 1));
        invalidOutside("18 can: the giver", 0, 3, (x, giver) -> x.can(1, giver));
        for (int same = 0; same < 4; same++) {
            int one = same;
            unchanged("18 can: twice the number " + same, Markets::worn, x -> x.can(one, one), INVALID);
        }
        unchanged("18 can: twice a number that is not there", Markets::worn, x -> x.can(4, 4), INVALID);
        unchanged("18 can: one trader alone, who wants the own kind",
            () -> wantOf(idle(1), 0, 1), x -> x.can(0, 0), INVALID);
        unchanged("18 can: no trader at all", BarterRings::new, x -> x.can(0, 1), INVALID);
        unchanged("18 can: the number 7 of seven", () -> greedy(7), x -> x.can(0, 7), INVALID);
        answers("18 can: the first one from the last one of seven",
            () -> alike(8), x -> x.can(0, 6), 1, x -> x.can(6, 0), 1);
        answers("18 can: one way, not the other one",
            () -> wantOf(pair(), 1, 0), x -> x.can(0, 1), 1, x -> x.can(1, 0), 0);
        unchanged("18 can: the taker's stall is shut", () -> shutOf(pair(), 0), x -> x.can(0, 1), 0);
        unchanged("18 can: the giver's stall is shut", () -> shutOf(pair(), 0), x -> x.can(1, 0), 0);
        unchanged("18 can: the taker's ware is spoilt", () -> lifeOf(agedPair(1), 0, 1), x -> x.can(0, 1), 0);
        unchanged("18 can: the giver's ware is spoilt", () -> lifeOf(agedPair(1), 0, 1), x -> x.can(1, 0), 0);
        answers("18 can: the wares are on their last day",
            () -> agedPair(8), x -> x.can(0, 1), 1, x -> x.can(1, 0), 1);
        answers("18 can: though no circle is short enough",
            () -> circleOf(ring(3), 2), x -> x.can(0, 1), 1, x -> x.most(0), 0);
        answers("18 can: the kind 5, the greatest", () -> {
            BarterRings x = new BarterRings();
            x.come(5, 1);
            x.come(0, 32);
            return x;
        }, x -> x.can(1, 0), 1, x -> x.can(0, 1), 1);
    }

    private void whyNot() {
        invalidOutside("19 whyNot: the first number", 0, 3, (x, one) -> x.whyNot(one, 1));
        invalidOutside("19 whyNot: the second number", 0, 3, (x, other) -> x.whyNot(1, other));
        for (int same = 0; same < 4; same++) {
            int one = same;
            unchanged("19 whyNot: twice the number " + same, Markets::worn, x -> x.whyNot(one, one), INVALID);
        }
        unchanged("19 whyNot: no trader at all", BarterRings::new, x -> x.whyNot(0, 1), INVALID);
        unchanged("19 whyNot: the number 7 of seven", () -> greedy(7), x -> x.whyNot(0, 7), INVALID);
        unchanged("19 whyNot: an error is told rather than the reason 1",
            () -> shutOf(pair(), 0), x -> x.whyNot(0, 2), INVALID);
        unchanged("19 whyNot: 0, they can", Markets::pair, x -> x.whyNot(0, 1), 0);
        unchanged("19 whyNot: 0, on the last day of both wares", () -> agedPair(8), x -> x.whyNot(1, 0), 0);
        unchanged("19 whyNot: 1, the first one's stall", () -> shutOf(pair(), 0), x -> x.whyNot(0, 1), 1);
        unchanged("19 whyNot: 1, the second one's stall", () -> shutOf(pair(), 0), x -> x.whyNot(1, 0), 1);
        unchanged("19 whyNot: 1 rather than all others", () -> {
            BarterRings x = agedPair(1);
            dayWithShut(x, 1);
            x.life(0, 1);
            x.want(0, 0);
            x.want(1, 0);
            return x;
        }, x -> x.whyNot(0, 1), 1);
        unchanged("19 whyNot: 2, the first one's ware", () -> lifeOf(agedPair(1), 0, 1), x -> x.whyNot(0, 1), 2);
        unchanged("19 whyNot: 2, the second one's ware", () -> lifeOf(agedPair(1), 0, 1), x -> x.whyNot(1, 0), 2);
        unchanged("19 whyNot: 2 rather than 3",
            () -> wantOf(lifeOf(agedPair(1), 0, 1), 0, 0), x -> x.whyNot(0, 1), 2);
        unchanged("19 whyNot: 2 rather than 4",
            () -> wantOf(lifeOf(agedPair(1), 0, 1), 1, 0), x -> x.whyNot(0, 1), 2);
        unchanged("19 whyNot: 3, the first one does not want", () -> wantOf(pair(), 0, 61), x -> x.whyNot(0, 1), 3);
        unchanged("19 whyNot: 3 rather than 4", () -> idle(2), x -> x.whyNot(0, 1), 3);
        unchanged("19 whyNot: 4, the second one does not want", () -> wantOf(pair(), 1, 62), x -> x.whyNot(0, 1), 4);
    }

    // ---- 20, most

    private void mostOf(String name, BarterRings x, int most) {
        answers("20 most: 0, " + name, () -> x, one -> one.most(0), most);
        answers("20 most: 1, " + name, () -> x, one -> one.most(1), most);
    }

    private void most() {
        invalidOutside("20 most: the way", 0, 1, BarterRings::most);
        unchanged("20 most: the way 2 without traders", BarterRings::new, x -> x.most(2), INVALID);
        unchanged("20 most: the way 0 changes nothing", Markets::worn, x -> x.most(0), 2);
        unchanged("20 most: the way 1 changes nothing", Markets::worn, x -> x.most(1), 2);
        mostOf("no trader at all", new BarterRings(), 0);
        mostOf("one trader alone", greedy(1), 0);
        mostOf("two, the least", pair(), 2);
        mostOf("seven, the most", greedy(7), 7);
        mostOf("seven who want nothing", idle(7), 0);
        mostOf("seven of one kind, two and two", circleOf(alike(8), 2), 6);
        mostOf("seven of one kind, with circles of three", circleOf(alike(8), 3), 7);
        mostOf("all but the one whose stall is shut", shutOf(alike(8), 3), 6);
        mostOf("all wares are spoilt", allSpoilt(), 0);
        mostOf("wares on their last day", agedPair(8), 2);
        mostOf("a ring that is broken by a shut stall", shutOf(ring(6), 5), 0);
        mostOf("the set of all six with CIRCLE 6", circleOf(ring(6), 6), 6);
        mostOf("the set of all six with CIRCLE 5", circleOf(ring(6), 5), 0);
        mostOf("nobody wants any more", called(ring(6)), 0);
    }

    private void mostAgain(String name, ToIntFunction<BarterRings> change, int most) {
        for (int way = 0; way < 2; way++) {
            int one = way;
            test("20 most: " + way + ", told again, " + name, () -> {
                BarterRings x = ring(6);
                due("most(" + one + ")", x.most(one), 6);
                change.applyAsInt(x);
                due("most(" + one + ") again", x.most(one), most);
            });
        }
    }

    private void mostAgain() {
        mostAgain("as nothing is otherwise", x -> 0, 6);
        mostAgain("when nobody wants any more", BarterRings::call, 0);
        mostAgain("when CIRCLE is too small", x -> x.circle(5), 0);
        mostAgain("when one wants nothing", x -> x.want(3, 0), 0);
        mostAgain("when one is gone", x -> x.go(5), 0);
        mostAgain("when a shorter circle is left alone", x -> x.want(1, 1) + x.want(5, 0), 2);
        mostAgain("when another one has come, who is in no circle", x -> x.come(3, 1), 6);
        mostAgain("when another one has come, who is in one", x -> x.come(0, 1), 7);
    }

    // ---- 21, kind

    private void kindArguments() {
        invalidOutside("21 kind: the kind", 0, 5, (x, kind) -> x.kind(kind, 0));
        invalidOutside("21 kind: what", 0, 5, (x, what) -> x.kind(1, what));
        unchanged("21 kind: both arguments are wrong", Markets::worn, x -> x.kind(6, 6), INVALID);
        int[] least = {3, 2, 0, 1, 1, 1};
        int[] two = {2, 1, 1, 0, 1, 1};
        int[] greatest = {3, 0, 0, 0, 0, 0};
        for (int what = 0; what < 6; what++) {
            int one = what;
            unchanged("21 kind: what " + what + " of the kind 0, the least",
                Markets::worn, x -> x.kind(0, one), least[what]);
            unchanged("21 kind: what " + what + " of the kind 2", Markets::worn, x -> x.kind(2, one), two[what]);
            unchanged("21 kind: what " + what + " of the kind 5, the greatest",
                Markets::worn, x -> x.kind(5, one), greatest[what]);
        }
    }

    private void kindNumbers() {
        String[] names = {"wares of it", "spoilt ones", "traders who want it", "traders who make it", "needs of it met"};
        for (int what = 1; what < 6; what++) {
            int one = what;
            answers("21 kind: no " + names[what - 1] + ", without traders", BarterRings::new, x -> x.kind(3, one), 0);
        }
        answers("21 kind: a life of 1 day, the least", () -> lifeOf(idle(1), 0, 1), x -> x.kind(0, 0), 1);
        answers("21 kind: a life of 9 days, the most", () -> lifeOf(idle(1), 5, 9), x -> x.kind(5, 0), 9);
        answers("21 kind: seven wares of it, the most", () -> alike(8), x -> x.kind(3, 1), 7, x -> x.kind(3, 2), 0);
        answers("21 kind: seven spoilt ones, the most",
            LooksCases::allSpoilt, x -> x.kind(3, 2), 7, x -> x.kind(3, 1), 7);
        answers("21 kind: seven want it, the most", () -> alike(8), x -> x.kind(3, 3), 7, x -> x.kind(2, 3), 0);
        answers("21 kind: seven make it, the most", () -> alike(8), x -> x.kind(3, 4), 7, x -> x.kind(4, 4), 0);
        answers("21 kind: seven needs of it are met",
            () -> called(alike(8)), x -> x.kind(3, 5), 7, x -> x.kind(3, 3), 0);
        answers("21 kind: a ware of it is on its last day",
            () -> aged(8), x -> x.kind(0, 2), 0, x -> x.kind(0, 1), 1);
        answers("21 kind: a ware's age is its life",
            () -> lifeOf(aged(8), 0, 8), x -> x.kind(0, 2), 1, x -> x.kind(0, 1), 1);
        answers("21 kind: a ware that was taken is counted by its kind, its maker by the own one", () -> {
            BarterRings x = called(pair());
            x.go(1);
            return x;
        }, x -> x.kind(1, 1), 1, x -> x.kind(1, 4), 0);
        answers("21 kind: a need met stays, when the trader goes", () -> {
            BarterRings x = called(pair());
            x.go(0);
            return x;
        }, x -> x.kind(1, 5), 1, x -> x.kind(0, 5), 1);
        answers("21 kind: wants that are taken away are no needs met", () -> wantOf(alike(8), 0, 0),
            x -> x.kind(3, 5), 0, x -> x.kind(3, 3), 6);
    }

    // ---- 22, count

    private void countArguments() {
        invalidOutside("22 count: what", 0, 15, BarterRings::count);
        int[] due = {2, 4, 3, 3, 3, 1, 1, 5, 1, 1, 0, 7, 3347, 2, 5, 4};
        for (int what = 0; what < 16; what++) {
            int one = what;
            unchanged("22 count: what " + what + " changes nothing", Markets::worn, x -> x.count(one), due[what]);
        }
    }

    private void counts(String name, BarterRings x, int what, int due) {
        answers("22 count: " + what + ", " + name, () -> x, one -> one.count(what), due);
    }

    private void countOfTraders() {
        int[] ofTraders = {1, 2, 3, 4, 5, 6, 7, 10};
        for (int what : ofTraders) {
            counts("without traders", new BarterRings(), what, 0);
        }
        counts("one trader", idle(1), 1, 1);
        counts("seven traders, the most", idle(7), 1, 7);
        counts("no needs of seven", idle(7), 2, 0);
        counts("42 needs of seven, the most", greedy(7), 2, 42);
        counts("seven wares that are not spoilt, the most", alike(8), 4, 7);
        counts("none of seven is not spoilt", allSpoilt(), 4, 0);
        counts("none of seven is spoilt", alike(8), 5, 0);
        counts("seven spoilt wares, the most", allSpoilt(), 5, 7);
        counts("a ware on its last day", aged(8), 4, 1);
        counts("a ware whose age is its life", lifeOf(aged(8), 0, 8), 5, 1);
        counts("none of seven is stuck, as all can take", alike(8), 10, 0);
        counts("none of seven is stuck, as nobody wants anything", idle(7), 10, 0);
        counts("seven are stuck, the most", alike(1), 10, 7);
        counts("seven are stuck, as all wares are spoilt", allSpoilt(), 10, 7);
        counts("one who wants the own kind is stuck", wantOf(idle(1), 0, 1), 10, 1);
        counts("one is stuck whose stall is shut, one as nothing is left to take", shutOf(pair(), 0), 10, 2);
        counts("one who can take is not stuck, though in no circle", wantOf(pair(), 1, 0), 10, 0);
        counts("one can take one of two kinds that are wanted", wantOf(pair(), 0, 6), 10, 0);
    }

    private static BarterRings refused(int times) {
        BarterRings x = idle(2);
        for (int time = 0; time < times; time++) {
            x.barter(0, 1);
        }
        return x;
    }

    private void countOfAccounts() {
        counts("the day 0, the least", idle(7), 0, 0);
        counts("the day 1", shutOf(idle(7), 0), 0, 1);
        counts("the day is not changed by a market call", called(pair()), 0, 0);
        counts("needs met, two at once, the least", called(pair()), 3, 2);
        counts("needs met, seven at once, the most", called(alike(8)), 3, 7);
        counts("a ware that goes is not thrown away", goneOf(idle(2)), 6, 0);
        counts("a spoilt ware is not thrown away ahead of the day", allSpoilt(), 6, 0);
        counts("seven wares thrown away, the most of one day", shutOf(allSpoilt(), 0), 6, 7);
        counts("seven wares that traders came with", idle(7), 7, 7);
        counts("the ware of one who went was made, too", goneOf(idle(2)), 7, 2);
        counts("wares made anew", shutOf(allSpoilt(), 0), 7, 14);
        counts("no ware is made by a barter", called(pair()), 7, 2);
        counts("a market call in which nobody barters", called(new BarterRings()), 8, 1);
        counts("market calls of ifDays() are none", looked(pair()), 8, 0);
        counts("no refused deed", called(pair()), 9, 0);
        counts("one refused deed", refused(1), 9, 1);
        counts("nine refused deeds", refused(9), 9, 9);
        counts("whyNot() is no refused deed", looked(idle(2)), 9, 0);
    }

    private static BarterRings goneOf(BarterRings x) {
        x.go(0);
        return x;
    }

    private static BarterRings looked(BarterRings x) {
        x.ifDays(20, 0);
        x.whyNot(0, 1);
        x.barter(0, 0);
        return x;
    }

    private void countOfSettings() {
        counts("CIRCLE 2, the least", circleOf(idle(1), 2), 11, 2);
        counts("CIRCLE 7, the greatest", idle(1), 11, 7);
        BarterRings least = new BarterRings();
        least.lot(0);
        counts("the lot 0, the least", least, 12, 0);
        BarterRings greatest = new BarterRings();
        greatest.lot(9999);
        counts("the lot 9999, the greatest", greatest, 12, 9999);
        counts("no stall is shut on the day 0", idle(7), 13, NOT_FOUND);
        counts("no stall is shut by lot", shutOf(idle(7), 7), 13, NOT_FOUND);
        counts("the first one's stall is shut", shutOf(idle(7), 0), 13, 0);
        counts("the last one's stall is shut", shutOf(idle(7), 6), 13, 6);
        counts("an empty pad", written(""), 14, 0);
        counts("a full pad", written("c".repeat(60)), 14, 60);
        counts("no states", written("c"), 15, 0);
        counts("one state", idle(1), 15, 1);
        counts("four states of four changes", idle(4), 15, 4);
        counts("four states of five changes, the most", idle(5), 15, 4);
    }

    // ---- 23, freshness

    private void fresh(String name, BarterRings x, double due) {
        test("23 freshness: " + name, () -> due("freshness()", x.freshness(), due));
    }

    private void freshness() {
        fresh("no trader at all", new BarterRings(), 0.0);
        fresh("no trader is left", goneOf(idle(1)), 0.0);
        fresh("all wares are spoilt", allSpoilt(), 0.0);
        fresh("one ware on its last day, the least", aged(8), 1.0);
        fresh("one ware of the life 1", lifeOf(idle(1), 0, 1), 1.0);
        fresh("one ware with 9 days, the most", aged(0), 9.0);
        fresh("seven wares", alike(8), 3.0);
        fresh("two wares, a half between", lifeOf(idle(2), 1, 4), 3.5);
        fresh("three wares, a third between", lifeOf(idle(3), 1, 4), 10.0 / 3);
        fresh("seven wares, a seventh between", lifeOf(idle(7), 1, 4), 22.0 / 7);
        fresh("a spoilt ware is not counted", lifeOf(agedPair(8), 0, 8), 1.0);
        fresh("a ware spoilt long ago is not counted", lifeOf(agedPair(8), 0, 1), 1.0);
        fresh("a ware in a shut stall is counted", shutOf(idle(1), 0), 2.0);
        test("23 freshness: it changes nothing", () -> {
            BarterRings x = worn();
            String before = allTold(x);
            due("freshness()", x.freshness(), 4.0 / 3);
            tell(allTold(x).equals(before), "it did");
        });
    }

    // ---- 24, ifCircle

    private void ifCircle() {
        invalidOutside("24 ifCircle: the traders", 2, 7, BarterRings::ifCircle);
        unchanged("24 ifCircle: 1 without traders", BarterRings::new, x -> x.ifCircle(1), INVALID);
        unchanged("24 ifCircle: 8 without traders", BarterRings::new, x -> x.ifCircle(8), INVALID);
        answers("24 ifCircle: 2, the least, without traders", BarterRings::new, x -> x.ifCircle(2), 0);
        answers("24 ifCircle: 7, the greatest, without traders", BarterRings::new, x -> x.ifCircle(7), 0);
        for (int length = 2; length <= 7; length++) {
            int circle = length;
            unchanged("24 ifCircle: " + length + ", of six in a ring, with CIRCLE 2", () -> circleOf(ring(6), 2),
                x -> x.ifCircle(circle), circle < 6 ? 0 : 6);
            unchanged("24 ifCircle: " + length + ", of three in a ring, with CIRCLE 7", () -> ring(3),
                x -> x.ifCircle(circle), circle < 3 ? 0 : 3);
        }
        unchanged("24 ifCircle: 2, of seven of one kind", () -> alike(8), x -> x.ifCircle(2), 6);
        unchanged("24 ifCircle: 3, of seven of one kind", () -> circleOf(alike(8), 2), x -> x.ifCircle(3), 7);
        unchanged("24 ifCircle: the CIRCLE that it is", () -> circleOf(ring(3), 3), x -> x.ifCircle(3), 3);
        unchanged("24 ifCircle: of a shut stall", () -> shutOf(pair(), 0), x -> x.ifCircle(7), 0);
        unchanged("24 ifCircle: of spoilt wares", LooksCases::allSpoilt, x -> x.ifCircle(7), 0);
    }

    // ---- 25, ifDays

    private void ifDaysArguments() {
        invalidOutside("25 ifDays: the days", 1, 20, (x, days) -> x.ifDays(days, 0));
        invalidOutside("25 ifDays: what", 0, 2, (x, what) -> x.ifDays(1, what));
        unchanged("25 ifDays: both arguments are wrong", Markets::worn, x -> x.ifDays(0, 3), INVALID);
        unchanged("25 ifDays: 0 days without traders", BarterRings::new, x -> x.ifDays(0, 0), INVALID);
        int[] one = {2, 1, 2};
        int[] nineteen = {0, 38, 2};
        int[] twenty = {2, 40, 0};
        for (int what = 0; what < 3; what++) {
            int told = what;
            unchanged("25 ifDays: 1 day, the least, what " + what, LooksCases::pairAndOne,
                x -> x.ifDays(1, told), one[what]);
            unchanged("25 ifDays: 19 days, what " + what, LooksCases::shutForNineteenDays,
                x -> x.ifDays(19, told), nineteen[what]);
            unchanged("25 ifDays: 20 days, the most, what " + what, LooksCases::shutForNineteenDays,
                x -> x.ifDays(20, told), twenty[what]);
            unchanged("25 ifDays: 1 day without traders, what " + what, BarterRings::new, x -> x.ifDays(1, told), 0);
            unchanged("25 ifDays: 20 days without traders, what " + what,
                BarterRings::new, x -> x.ifDays(20, told), 0);
        }
    }

    /** A pair, and one who wants two kinds in vain and has a ware of the life 1. */
    private static BarterRings pairAndOne() {
        BarterRings x = pair();
        x.come(2, 3);
        return lifeOf(x, 2, 1);
    }

    /** One of both stalls is shut on this day and, by the lots from 5487 on, on 18 more, but not on the next one. */
    private static BarterRings shutForNineteenDays() {
        BarterRings x = lifeOf(lifeOf(pair(), 0, 1), 1, 1);
        dayWithShut(x, 0);
        x.lot(5487);
        return x;
    }

    private void ifDays() {
        test("25 ifDays: first the call, then the day passes", () -> {
            BarterRings x = called(agedPair(8));
            x.want(0, 1);
            x.want(1, 2);
            due("needs met", x.ifDays(1, 0), 2);
            due("wares thrown away", x.ifDays(1, 1), 2);
            due("needs still", x.ifDays(1, 2), 0);
        });
        test("25 ifDays: on the next day comes the next call", () -> {
            BarterRings x = shutOf(pair(), 0);
            due("one day, the first stall is shut", x.ifDays(1, 0), 0);
            due("two days, the second stall is shut", x.ifDays(2, 0), 0);
            due("three days, no stall is shut", x.ifDays(3, 0), 2);
        });
        test("25 ifDays: what was before is not counted", () -> {
            BarterRings x = lifeOf(called(pair()), 0, 1);
            x.day();
            due("needs met so far", x.count(3), 2);
            due("wares thrown away so far", x.count(6), 1);
            due("needs met", x.ifDays(1, 0), 0);
            due("wares thrown away", x.ifDays(1, 1), 0);
        });
        answers("25 ifDays: no longer circles than CIRCLE", () -> circleOf(ring(3), 2), x -> x.ifDays(1, 0), 0,
            x -> x.ifDays(1, 2), 3);
        answers("25 ifDays: circles of CIRCLE",
            () -> circleOf(ring(3), 3), x -> x.ifDays(1, 0), 3, x -> x.ifDays(1, 2), 0);
        answers("25 ifDays: seven needs met on one day, the most",
            () -> alike(8), x -> x.ifDays(1, 0), 7, x -> x.ifDays(20, 0), 7);
        answers("25 ifDays: seven wares thrown away on one day, the most", LooksCases::allSpoilt,
            x -> x.ifDays(1, 1), 7, x -> x.ifDays(20, 1), 140);
        answers("25 ifDays: wares that last, 20 days",
            () -> lifeOf(idle(1), 0, 9), x -> x.ifDays(8, 1), 0, x -> x.ifDays(20, 1), 2);
        answers("25 ifDays: a ware that is thrown away on the last of the days", () -> lifeOf(idle(1), 0, 9),
            x -> x.ifDays(9, 1), 1, x -> x.ifDays(17, 1), 1);
        answers("25 ifDays: of 42 needs, the most, seven are met on one day", () -> greedy(7),
            x -> x.ifDays(1, 0), 7, x -> x.ifDays(1, 2), 35);
    }

    // ---- 26, bestWant

    private void bestWant() {
        invalidOutside("26 bestWant: the trader", 0, 3, BarterRings::bestWant);
        unchanged("26 bestWant: no trader at all", BarterRings::new, x -> x.bestWant(0), INVALID);
        unchanged("26 bestWant: the number 7 of seven", () -> greedy(7), x -> x.bestWant(7), INVALID);
        unchanged("26 bestWant: a wrong number is told rather than NOT_FOUND",
            () -> greedy(1), x -> x.bestWant(1), INVALID);
        unchanged("26 bestWant: all kinds are wanted", () -> greedy(7), x -> x.bestWant(6), NOT_FOUND);
        for (int kind = 0; kind < 6; kind++) {
            int one = kind;
            unchanged("26 bestWant: all kinds but " + kind + " are wanted",
                () -> wantOf(greedy(7), 6, 63 - (1 << one)),
                x -> x.bestWant(6), one);
        }
        unchanged("26 bestWant: one alone, who wants nothing", () -> idle(1), x -> x.bestWant(0), 0);
        unchanged("26 bestWant: one alone, who wants the kind 0", () -> wantOf(idle(1), 0, 1), x -> x.bestWant(0), 1);
        unchanged("26 bestWant: one alone, who wants the kinds 0 to 4",
            () -> wantOf(idle(1), 0, 31), x -> x.bestWant(0), 5);
        unchanged("26 bestWant: no kind is better, so the least one, though it is the own kind",
            () -> idle(7), x -> x.bestWant(0), 0);
        unchanged("26 bestWant: the stall is shut, so the least one",
            () -> shutOf(wantOf(pair(), 0, 0), 0), x -> x.bestWant(0), 0);
    }

    /** The trader 0, with the kind 0, could be in a pair by the kind 1, and in a ring of three by the kind 2. */
    private static BarterRings pairOrRing() {
        BarterRings x = new BarterRings();
        x.come(0, 0);
        x.come(1, 1);
        x.come(2, 2);
        return x;
    }

    private void bestWantOfSeveral() {
        unchanged("26 bestWant: more traders, though not the least kind",
            LooksCases::pairOrRing, x -> x.bestWant(0), 2);
        unchanged("26 bestWant: CIRCLE is too small for more",
            () -> circleOf(pairOrRing(), 2), x -> x.bestWant(0), 1);
        unchanged("26 bestWant: CIRCLE is just great enough", () -> circleOf(pairOrRing(), 3), x -> x.bestWant(0), 2);
        unchanged("26 bestWant: what is wanted is better, but what is not wanted is told",
            () -> wantOf(pairOrRing(), 0, 4), x -> x.bestWant(0), 0);
        unchanged("26 bestWant: of several kinds with as many traders the least one", () -> {
            BarterRings x = new BarterRings();
            x.come(0, 0);
            x.come(5, 1);
            x.come(3, 1);
            x.come(4, 1);
            return x;
        }, x -> x.bestWant(0), 3);
        unchanged("26 bestWant: the kind 5, the greatest", () -> {
            BarterRings x = new BarterRings();
            x.come(0, 0);
            x.come(5, 1);
            return x;
        }, x -> x.bestWant(0), 5);
        unchanged("26 bestWant: of the last one of seven", () -> {
            BarterRings x = idle(7);
            x.want(4, 1);
            x.want(0, 2);
            x.want(1, 4);
            return x;
        }, x -> x.bestWant(6), 4);
        unchanged("26 bestWant: a kind whose only ware is spoilt is no better", () -> {
            BarterRings x = agedPair(1);
            x.want(0, 0);
            return lifeOf(x, 1, 1);
        }, x -> x.bestWant(0), 0);
        unchanged("26 bestWant: in a market in which all has happened", Markets::worn, x -> x.bestWant(1), 0);
    }
}
