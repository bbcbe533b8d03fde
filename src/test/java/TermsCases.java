/** The boundary cases of the sections "Terms", "Who takes from whom" and "Settings". */
final class TermsCases extends CaseBook {
    @Override
    void cases() {
        calls();
        kinds();
        spoiling();
        numbers();
        rowsThatMove();
        newcomers();
        taking();
        circles();
        barters();
        bestAtTraderZero();
        bestBehindTraderZero();
        doneBarters();
        settings();
    }

    private void calls() {
        test("What it is: the 512th call is answered still", () -> {
            BarterRings x = new BarterRings();
            x.come(0, 0);
            for (int call = 2; call < 512; call++) {
                x.day();
            }
            due("count(0)", x.count(0), 510);
        });
        test("What it is: the 512th of the dearest calls is answered still", () -> {
            BarterRings x = greedy(7);
            x.circle(2);
            int first = x.ifDays(20, 0);
            for (int call = 10; call < 512; call++) {
                x.ifDays(20, 0);
            }
            due("ifDays(20, 0)", x.ifDays(20, 0), first);
        });
    }

    private void kinds() {
        for (int kind = 0; kind < 6; kind++) {
            int one = kind;
            answers("Terms: the life of the kind " + kind + " is 3 at first",
                BarterRings::new, x -> x.kind(one, 0), 3);
        }
        answers("Terms: there is no kind 6", BarterRings::new, x -> x.kind(6, 0), INVALID);
        answers("Terms: the kind 0 counts 1 in a set", () -> idle(1), x -> x.want(0, 1), 0, x -> x.kind(0, 3), 1);
        answers("Terms: the kind 5 counts 32 in a set", () -> idle(1), x -> x.want(0, 32), 0, x -> x.kind(5, 3), 1);
        test("Terms: a set without a kind", () -> {
            BarterRings x = new BarterRings();
            x.come(0, 0);
            for (int kind = 0; kind < 6; kind++) {
                due("who wants the kind " + kind, x.kind(kind, 3), 0);
            }
        });
        test("Terms: the set of all kinds", () -> {
            BarterRings x = new BarterRings();
            x.come(0, 63);
            for (int kind = 0; kind < 6; kind++) {
                due("who wants the kind " + kind, x.kind(kind, 3), 1);
            }
        });
    }

    private void spoiltWith(String name, int age, int life, int spoilt) {
        test("Terms: a ware of the age " + age + " with the life " + life + ", " + name, () -> {
            BarterRings x = aged(age);
            x.life(0, life);
            due("its age", x.trader(0, 3), age);
            due("spoilt wares", x.count(5), spoilt);
            due("wares that are not spoilt", x.count(4), 1 - spoilt);
        });
    }

    private void spoiling() {
        spoiltWith("the shortest, is not spoilt", 0, 1, 0);
        spoiltWith("the longest, is not spoilt", 0, 9, 0);
        spoiltWith("which is 1 more, is not spoilt", 1, 2, 0);
        spoiltWith("which is the same, is spoilt", 1, 1, 1);
        spoiltWith("which is 1 more, is not spoilt", 8, 9, 0);
        spoiltWith("which is the same, is spoilt", 8, 8, 1);
        spoiltWith("which is 1 less, is spoilt", 8, 7, 1);
        spoiltWith("which is the shortest, is spoilt", 8, 1, 1);
        test("Terms: a ware is spoilt no more, if the life becomes longer than its age", () -> {
            BarterRings x = aged(3);
            x.life(0, 3);
            due("spoilt wares", x.count(5), 1);
            x.life(0, 4);
            due("spoilt wares", x.count(5), 0);
        });
        test("Terms: the life of the ware's own kind counts, not that of the kind that the trader makes", () -> {
            BarterRings x = agedPair(1);
            x.call();
            x.life(0, 1);
            due("the days of the ware of the kind 1", x.trader(0, 4), 8);
            due("the days of the ware of the kind 0", x.trader(1, 4), 0);
        });
    }

    private void numbersAfter(String name, int gone, int... makes) {
        test("Terms: " + name, () -> {
            BarterRings x = idle(7);
            x.go(gone);
            for (int trader = 0; trader < makes.length; trader++) {
                due("what the trader " + trader + " makes", x.trader(trader, 0), makes[trader]);
            }
            due("the number beyond the last one", x.trader(makes.length, 0), INVALID);
        });
    }

    private void numbers() {
        answers("Terms: the first trader has the number 0", BarterRings::new, x -> x.come(3, 3), 0);
        answers("Terms: the seventh trader has the number 6", () -> idle(6), x -> x.come(3, 3), 6);
        unchanged("Terms: there is no eighth trader", () -> idle(7), x -> x.come(3, 3), LIMIT);
        numbersAfter("when the first of seven goes, all others get numbers that are 1 less", 0, 1, 2, 3, 4, 5, 0);
        numbersAfter("when one between goes, those with lesser numbers keep theirs", 3, 0, 1, 2, 4, 5, 0);
        numbersAfter("when the last of seven goes, all others keep theirs", 6, 0, 1, 2, 3, 4, 5);
    }

    /** Seven traders who differ in all that is told of one. */
    private static BarterRings motley() {
        BarterRings x = new BarterRings();
        x.come(5, 1);
        x.come(4, 2);
        dayWithoutShut(x);
        x.come(0, 48);
        x.come(1, 28);
        x.barter(2, 0);
        dayWithoutShut(x);
        x.come(2, 4);
        x.barter(1, 3);
        x.come(3, 7);
        x.come(0, 63);
        return x;
    }

    private void rowsAfter(int gone) {
        test("Terms: when the trader " + gone + " of seven goes, each other one keeps all that is the own", () -> {
            BarterRings before = motley();
            BarterRings x = motley();
            x.go(gone);
            int[] whats = {0, 1, 2, 3, 4, 6};
            for (int trader = 0; trader < 6; trader++) {
                int old = trader < gone ? trader : trader + 1;
                for (int what : whats) {
                    due("trader(" + trader + ", " + what + ")", x.trader(trader, what), before.trader(old, what));
                }
            }
        });
    }

    private void rowsThatMove() {
        test("Terms: the seven traders of the cases behind this one differ", () -> {
            BarterRings x = motley();
            int[][] due = {
                {5, 0, 0, 1, 2, 0, 1}, {4, 0, 1, 1, 2, 0, 1}, {0, 16, 5, 2, 1, 0, 1}, {1, 12, 4, 2, 1, 0, 1},
                {2, 4, 2, 0, 3, 0, 0}, {3, 7, 3, 0, 3, 0, 0}, {0, 63, 0, 0, 3, 0, 0}};
            for (int trader = 0; trader < 7; trader++) {
                for (int what = 0; what < 7; what++) {
                    due("trader(" + trader + ", " + what + ")", x.trader(trader, what), due[trader][what]);
                }
            }
        });
        for (int gone = 0; gone < 7; gone++) {
            rowsAfter(gone);
        }
    }

    private void newcomers() {
        test("Terms: a trader who comes has a ware of the kind 0, the least, that the trader makes", () -> {
            BarterRings x = new BarterRings();
            x.come(0, 63);
            due("its kind", x.trader(0, 2), 0);
        });
        test("Terms: a trader who comes has a ware of the kind 5, the greatest, that the trader makes", () -> {
            BarterRings x = new BarterRings();
            x.come(5, 63);
            due("its kind", x.trader(0, 2), 5);
        });
        test("Terms: a trader who comes on a later day has a ware of the age 0", () -> {
            BarterRings x = aged(8);
            x.come(0, 0);
            due("its age", x.trader(1, 3), 0);
            due("the age of the other one", x.trader(0, 3), 8);
        });
        test("Terms: a trader who comes in the place of one who went has nothing of that one", () -> {
            BarterRings x = agedPair(2);
            x.call();
            x.go(1);
            x.come(4, 8);
            int[] fresh = {4, 8, 4, 0, 3, 0, 0};
            for (int what = 0; what < fresh.length; what++) {
                due("trader(1, " + what + ")", x.trader(1, what), fresh[what]);
            }
        });
    }

    private void taking() {
        answers("Who takes from whom: 0 can take, if all holds", Markets::pair, x -> x.can(0, 1), 1);
        test("Who takes from whom: both wares are on their last day", () -> {
            BarterRings x = agedPair(8);
            due("can(0, 1)", x.can(0, 1), 1);
            due("can(1, 0)", x.can(1, 0), 1);
        });
        test("Who takes from whom: a taker whose own ware is spoilt cannot", () -> {
            BarterRings x = agedPair(1);
            x.life(0, 1);
            due("can(0, 1)", x.can(0, 1), 0);
        });
        test("Who takes from whom: nobody can take a spoilt ware", () -> {
            BarterRings x = agedPair(1);
            x.life(1, 1);
            due("can(0, 1)", x.can(0, 1), 0);
        });
        test("Who takes from whom: a taker whose stall is shut cannot", () -> {
            BarterRings x = pair();
            dayWithShut(x, 0);
            due("can(0, 1)", x.can(0, 1), 0);
        });
        test("Who takes from whom: nobody can take from one whose stall is shut", () -> {
            BarterRings x = pair();
            dayWithShut(x, 1);
            due("can(0, 1)", x.can(0, 1), 0);
        });
        test("Who takes from whom: the shut stall of a third one is no hindrance", () -> {
            BarterRings x = pair();
            x.come(2, 0);
            dayWithShut(x, 2);
            due("can(0, 1)", x.can(0, 1), 1);
        });
        test("Who takes from whom: the kind of the ware has to be wanted, not that which the other one makes", () -> {
            BarterRings x = pair();
            x.call();
            x.want(0, 2);
            due("the kind 1 is made by the other one, who has the kind 0", x.can(0, 1), 0);
            x.want(0, 1);
            due("the kind 0", x.can(0, 1), 1);
        });
        test("Who takes from whom: the other one does not need to want anything", () -> {
            BarterRings x = pair();
            x.want(1, 0);
            due("can(0, 1)", x.can(0, 1), 1);
        });
    }

    /** Two circles among seven: of all, and of all but the last one, who has the kind of the first one. */
    private static BarterRings ringOfSeven() {
        BarterRings x = ring(6);
        x.come(0, 1);
        return x;
    }

    private void bestIs(String name, BarterRings x, int circle, int most) {
        test("Who takes from whom: " + name, () -> {
            x.circle(circle);
            due("most(0)", x.most(0), most);
            due("most(1)", x.most(1), most);
            due("call()", x.call(), most);
        });
    }

    private void circles() {
        BarterRings alone = new BarterRings();
        alone.come(0, 1);
        bestIs("one who wants the own kind is no circle", alone, 7, 0);
        bestIs("two are a circle, the smallest", pair(), 2, 2);
        bestIs("two are a circle with the greatest CIRCLE, too", pair(), 7, 2);
        for (int traders = 3; traders <= 6; traders++) {
            bestIs("a circle of " + traders + " with CIRCLE just so", ring(traders), traders, traders);
            bestIs("no circle of " + traders + " with CIRCLE 1 less", ring(traders), traders - 1, 0);
        }
        bestIs("a circle of seven, the greatest, with CIRCLE 7", ringOfSeven(), 7, 7);
        bestIs("no circle of seven with CIRCLE 6, but one of six", ringOfSeven(), 6, 6);
        bestIs("no circle of seven with CIRCLE 5, nor of six", ringOfSeven(), 5, 0);
        BarterRings open = ring(4);
        open.want(3, 0);
        bestIs("the last one has to take from the first one", open, 7, 0);
    }

    private void barters() {
        bestIs("no trader: a barter without circles", new BarterRings(), 7, 0);
        bestIs("one trader: a barter without circles", idle(1), 7, 0);
        bestIs("seven who want nothing: a barter without circles", idle(7), 7, 0);
        BarterRings pairs = pair();
        pairs.come(2, 8);
        pairs.come(3, 4);
        bestIs("two circles", pairs, 7, 4);
        bestIs("three circles of two among seven", greedy(7), 2, 6);
        bestIs("circles of three and two and two among seven", greedy(7), 3, 7);
        BarterRings common = pair();
        common.want(1, 5);
        common.come(2, 2);
        bestIs("two circles with a common trader are no barter", common, 2, 2);
        BarterRings rings = ring(3);
        rings.come(3, 16);
        rings.come(4, 32);
        rings.come(5, 9);
        rings.want(0, 10);
        bestIs("circles of three and three", rings, 3, 6);
    }

    private void givers(String name, BarterRings x, int... givers) {
        test("Who takes from whom: of barters with as many traders, " + name, () -> {
            for (int trader = 0; trader < givers.length; trader++) {
                due("the giver of " + trader, x.trader(trader, 9), givers[trader]);
            }
        });
    }

    private void bestAtTraderZero() {
        BarterRings three = greedy(3);
        three.circle(2);
        givers("0 takes from 1 rather than from 2", three, 1, 0, NOT_FOUND);
        BarterRings seven = idle(7);
        seven.want(0, 48);
        seven.want(5, 1);
        seven.want(4, 1);
        givers("0 takes from 4 rather than from 5", seven, 4, NOT_FOUND, NOT_FOUND, NOT_FOUND, 0, NOT_FOUND, NOT_FOUND);
        BarterRings last = new BarterRings();
        last.come(0, 32);
        last.come(1, 32);
        for (int trader = 2; trader < 6; trader++) {
            last.come(2, 0);
        }
        last.come(5, 3);
        givers("0 takes from 6, the greatest number, rather than from nobody", last,
            6, NOT_FOUND, NOT_FOUND, NOT_FOUND, NOT_FOUND, NOT_FOUND, 0);
        test("Who takes from whom: more traders go ahead of what 0 takes", () -> {
            BarterRings x = new BarterRings();
            x.come(0, 2);
            x.come(1, 5);
            x.come(2, 8);
            x.come(3, 2);
            int[] due = {NOT_FOUND, 2, 3, 1};
            for (int trader = 0; trader < 4; trader++) {
                due("the giver of " + trader, x.trader(trader, 9), due[trader]);
            }
        });
    }

    /** A ring whose last but one may take from any of two, who both may take from the first one. */
    private static BarterRings forked(int forkAt) {
        BarterRings x = new BarterRings();
        for (int trader = 0; trader < forkAt; trader++) {
            x.come(trader, 1 << trader + 1);
        }
        x.come(forkAt, 1 << forkAt + 1);
        x.come(forkAt + 1, 1);
        x.come(forkAt + 1, 1);
        return x;
    }

    private void bestBehindTraderZero() {
        givers("and from whom 0 takes, 1 takes from 2 rather than from 3", forked(1), 1, 2, 0, NOT_FOUND);
        givers("and from whom 0 and 1 take, 2 takes from 3 rather than from 4", forked(2), 1, 2, 3, 0, NOT_FOUND);
        givers("and from whom 0 to 2 take, 3 takes from 4 rather than from 5", forked(3), 1, 2, 3, 4, 0, NOT_FOUND);
        givers("and from whom 0 to 3 take, 4 takes from 5 rather than from 6", forked(4), 1, 2, 3, 4, 5, 0, NOT_FOUND);
        BarterRings crossed = new BarterRings();
        crossed.come(0, 32);
        crossed.come(1, 16);
        crossed.come(2, 0);
        crossed.come(2, 0);
        crossed.come(2, 0);
        crossed.come(5, 3);
        crossed.come(4, 3);
        givers("and from whom 0 to 4 take, 5 takes from 0 rather than from 1", crossed,
            5, 6, NOT_FOUND, NOT_FOUND, NOT_FOUND, 0, 1);
        BarterRings nobody = new BarterRings();
        nobody.come(0, 4);
        nobody.come(1, 32);
        nobody.come(2, 1);
        nobody.come(3, 32);
        nobody.come(5, 10);
        givers("and from whom 0 takes, 1 takes from 4 rather than from nobody", nobody, 2, 4, 0, NOT_FOUND, 1);
    }

    private void doneBarters() {
        test("Who takes from whom: in a circle each has the other one's ware as it was ahead of the barter", () -> {
            BarterRings x = new BarterRings();
            x.come(0, 2);
            dayWithoutShut(x);
            x.come(1, 4);
            dayWithoutShut(x);
            x.come(2, 1);
            due("call()", x.call(), 3);
            int[][] due = {{1, 1}, {2, 0}, {0, 2}};
            for (int trader = 0; trader < 3; trader++) {
                due("the kind of the ware of " + trader, x.trader(trader, 2), due[trader][0]);
                due("its age", x.trader(trader, 3), due[trader][1]);
            }
        });
        test("Who takes from whom: of all six kinds, the one that was taken alone is wanted no more", () -> {
            BarterRings x = greedy(2);
            x.call();
            due("what 0 wants", x.trader(0, 1), 61);
            due("what 1 wants", x.trader(1, 1), 62);
        });
        test("Who takes from whom: the only kind that was wanted is wanted no more", () -> {
            BarterRings x = pair();
            x.call();
            due("what 0 wants", x.trader(0, 1), 0);
            due("what 1 wants", x.trader(1, 1), 0);
        });
        test("Who takes from whom: one who is in no circle keeps the ware and the wants", () -> {
            BarterRings x = pair();
            x.come(2, 3);
            x.call();
            due("the ware", x.trader(2, 2), 2);
            due("the wants", x.trader(2, 1), 3);
            due("the needs met", x.trader(2, 6), 0);
        });
    }

    private void settings() {
        answers("Settings: CIRCLE is 7 at first", BarterRings::new, x -> x.count(11), 7);
        answers("Settings: CIRCLE may be 2, the least", BarterRings::new, x -> x.circle(2), 7, x -> x.count(11), 2);
        answers("Settings: CIRCLE may be 7, the greatest",
            BarterRings::new, x -> x.circle(7), 7, x -> x.count(11), 7);
        invalidOutside("Settings: CIRCLE", 2, 7, BarterRings::circle);
    }
}
