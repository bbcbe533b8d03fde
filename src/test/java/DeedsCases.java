/** The boundary cases of the section "Deeds" and of the promises 8 to 10: barters, market calls and days. */
final class DeedsCases extends CaseBook {
    private static final int SHUT = 1;
    private static final int SPOILT = 2;
    private static final int FIRST_WANTS_NOT = 4;
    private static final int SECOND_WANTS_NOT = 8;

    @Override
    void cases() {
        reasonsInOrder();
        whichOfBoth();
        whatARefusalLeaves();
        barter();
        call();
        day();
        dayOfWares();
        lots();
        shutStalls();
    }

    /** The traders 0 and 1 with those of the four reasons against a barter of 0 with 1 that are told as bits. */
    private static BarterRings pairWith(int reasons) {
        BarterRings x = agedPair(0);
        dayWithShut(x, (reasons & SHUT) != 0 ? 0 : 2);
        x.life(0, (reasons & SPOILT) != 0 ? 1 : 9);
        x.want(0, (reasons & FIRST_WANTS_NOT) != 0 ? 0 : 2);
        x.want(1, (reasons & SECOND_WANTS_NOT) != 0 ? 0 : 1);
        return x;
    }

    private static String nameOf(int reasons) {
        StringBuilder name = new StringBuilder();
        for (int reason = 1; reason <= 4; reason++) {
            name.append((reasons >> reason - 1 & 1) != 0 ? " " + reason : "");
        }
        return name.toString();
    }

    private void reasonsInOrder() {
        answers("Deeds: without a reason the barter is done", () -> pairWith(0), x -> x.barter(0, 1), 10);
        for (int reasons = 1; reasons < 16; reasons++) {
            int some = reasons;
            int first = 1 + Integer.numberOfTrailingZeros(reasons);
            answers("Deeds: of the reasons" + nameOf(reasons) + " the first one is told",
                () -> pairWith(some), x -> x.barter(0, 1), first, x -> x.count(9), 1);
        }
    }

    private void whichOfBoth() {
        answers("Deeds: the reason 1, the first one's stall is shut",
            () -> pairWith(SHUT), x -> x.barter(0, 1), 1);
        answers("Deeds: the reason 1, the second one's stall is shut",
            () -> pairWith(SHUT), x -> x.barter(1, 0), 1);
        answers("Deeds: the reason 2, the first one's ware is spoilt",
            () -> pairWith(SPOILT), x -> x.barter(0, 1), 2);
        answers("Deeds: the reason 2, the second one's ware is spoilt",
            () -> pairWith(SPOILT), x -> x.barter(1, 0), 2);
        answers("Deeds: the reason 2, both wares are spoilt", () -> {
            BarterRings x = pairWith(SPOILT);
            x.life(1, 1);
            return x;
        }, x -> x.barter(0, 1), 2);
        answers("Deeds: the reason 3, the first one does not want",
            () -> pairWith(FIRST_WANTS_NOT), x -> x.barter(0, 1), 3);
        answers("Deeds: the reason 3, the same one told as the second one is the reason 4",
            () -> pairWith(FIRST_WANTS_NOT), x -> x.barter(1, 0), 4);
        answers("Deeds: the reason 4, the second one does not want",
            () -> pairWith(SECOND_WANTS_NOT), x -> x.barter(0, 1), 4);
        answers("Deeds: both do not want, told either way, is the reason 3",
            () -> pairWith(FIRST_WANTS_NOT | SECOND_WANTS_NOT), x -> x.barter(1, 0), 3);
        answers("Deeds: no reason, the stall of a third one is shut", () -> {
            BarterRings x = pair();
            x.come(2, 0);
            dayWithShut(x, 2);
            return x;
        }, x -> x.barter(0, 1), 10);
        answers("Deeds: no reason, both wares are on their last day", () -> agedPair(8), x -> x.barter(0, 1), 10);
        answers("Deeds: no reason, all other kinds are not wanted", Markets::pair, x -> x.barter(1, 0), 10);
        answers("Deeds: the reason 3, all other kinds are wanted", () -> {
            BarterRings x = greedy(2);
            x.want(0, 61);
            return x;
        }, x -> x.barter(0, 1), 3);
        answers("Deeds: the reason 4, all other kinds are wanted", () -> {
            BarterRings x = greedy(2);
            x.want(1, 62);
            return x;
        }, x -> x.barter(0, 1), 4);
        answers("Deeds: a barter by hand with the least CIRCLE", () -> {
            BarterRings x = pair();
            x.circle(2);
            return x;
        }, x -> x.barter(0, 1), 10);
        answers("Deeds: two with the same kind barter", () -> {
            BarterRings x = new BarterRings();
            x.come(0, 1);
            x.come(0, 1);
            return x;
        }, x -> x.barter(0, 1), 10, x -> x.kind(0, 5), 2);
    }

    private void whatARefusalLeaves() {
        for (int reasons = 1; reasons < 16; reasons <<= 1) {
            int one = reasons;
            test("8 barter: refused for the reason" + nameOf(reasons) + ", it is counted and leaves all else", () -> {
                BarterRings x = pairWith(one);
                String before = told(x);
                int refused = x.count(9);
                x.barter(0, 1);
                due("refused deeds", x.count(9), refused + 1);
                due("states", x.count(15), 4);
                due("undo()", x.undo(), 3);
                tell(told(x).equals(before), "not undone");
                x.barter(0, 1);
                due("wares of 0", x.trader(0, 2), 0);
                due("wants of 1", x.trader(1, 1), one == SECOND_WANTS_NOT ? 0 : 1);
                due("needs met", x.count(3), 0);
            });
        }
    }

    private void barter() {
        answers("8 barter: the numbers 0 and 1, the least", Markets::pair, x -> x.barter(0, 1), 10);
        answers("8 barter: the numbers 6 and 5 of seven, the greatest", () -> greedy(7), x -> x.barter(6, 5), 10);
        answers("8 barter: the first and the last one of seven", () -> {
            BarterRings x = greedy(7);
            x.go(0);
            x.come(0, 63);
            return x;
        }, x -> x.barter(0, 6), 10);
        invalidOutside("8 barter: the first number", 0, 3, (x, one) -> x.barter(one, 1));
        invalidOutside("8 barter: the second number", 0, 3, (x, other) -> x.barter(1, other));
        for (int same = 0; same < 4; same++) {
            int one = same;
            unchanged("8 barter: twice the number " + same, Markets::worn, x -> x.barter(one, one), INVALID);
        }
        unchanged("8 barter: twice a number that is not there", Markets::worn, x -> x.barter(4, 4), INVALID);
        unchanged("8 barter: no trader at all", BarterRings::new, x -> x.barter(0, 1), INVALID);
        unchanged("8 barter: one trader alone", () -> idle(1), x -> x.barter(0, 1), INVALID);
        unchanged("8 barter: the number 7 of seven", () -> greedy(7), x -> x.barter(0, 7), INVALID);
        unchanged("8 barter: an error is told rather than the reason 1",
            () -> pairWith(SHUT), x -> x.barter(0, 0), INVALID);
        unchanged("8 barter: an error is told rather than the reason 2",
            () -> pairWith(SPOILT), x -> x.barter(0, 2), INVALID);
        unchanged("8 barter: an error is told rather than the reason 3", () -> idle(2), x -> x.barter(0, 2), INVALID);
        test("8 barter: again, when nothing is wanted any more", () -> {
            BarterRings x = pair();
            due("barter(0, 1)", x.barter(0, 1), 10);
            due("barter(0, 1) again", x.barter(0, 1), 3);
            due("needs met", x.count(3), 2);
        });
        test("8 barter: each has the other one's ware with its age", () -> {
            BarterRings x = aged(8);
            x.want(0, 32);
            x.come(5, 1);
            due("barter(1, 0)", x.barter(1, 0), 10);
            int[][] due = {{0, 0, 5, 0, 3}, {5, 0, 0, 8, 1}};
            for (int trader = 0; trader < 2; trader++) {
                for (int what = 0; what < 5; what++) {
                    due("trader(" + trader + ", " + what + ")", x.trader(trader, what), due[trader][what]);
                }
            }
        });
    }

    private void call() {
        answers("9 call: no trader at all", BarterRings::new, BarterRings::call, 0, x -> x.count(8), 1);
        answers("9 call: one trader alone, who wants all",
            () -> greedy(1), BarterRings::call, 0, x -> x.trader(0, 1), 63);
        answers("9 call: seven who want nothing", () -> idle(7), BarterRings::call, 0, x -> x.count(3), 0);
        answers("9 call: seven who want all", () -> greedy(7), BarterRings::call, 7, x -> x.count(3), 7);
        answers("9 call: two, the least who can barter", Markets::pair, BarterRings::call, 2, x -> x.count(3), 2);
        answers("9 call: again, when nothing is wanted any more", () -> {
            BarterRings x = ring(6);
            x.call();
            return x;
        }, BarterRings::call, 0, x -> x.count(8), 2);
        answers("9 call: of a shut stall", () -> pairWith(SHUT), BarterRings::call, 0, x -> x.count(9), 0);
        answers("9 call: of a spoilt ware", () -> pairWith(SPOILT), BarterRings::call, 0, x -> x.count(9), 0);
        answers("9 call: of wares on their last day",
            () -> agedPair(8), BarterRings::call, 2, x -> x.trader(0, 3), 8);
        test("9 call: the barter that is done is the one that was told as the best one", () -> {
            BarterRings x = greedy(7);
            x.circle(3);
            int[] due = {1, 0, 3, 2, 5, 0, 4};
            due("call()", x.call(), 7);
            for (int trader = 0; trader < 7; trader++) {
                due("the ware of " + trader, x.trader(trader, 2), due[trader]);
            }
        });
        test("9 call: seven again and again, until all is met that can be", () -> {
            BarterRings x = greedy(7);
            int met = 0;
            for (int call = 0; call < 21; call++) {
                met += x.call();
            }
            due("needs met", x.count(3), met);
            due("needs that are left", x.count(2), 42 - met);
            due("call() at last", x.call(), 0);
        });
    }

    private void day() {
        answers("10 day: no trader at all", BarterRings::new, BarterRings::day, 0, x -> x.count(0), 1);
        answers("10 day: of the day 0 comes the day 1", () -> idle(1), BarterRings::day, 0, x -> x.count(0), 1);
        answers("10 day: of the day 8 comes the day 9", () -> aged(8), BarterRings::day, 1, x -> x.count(0), 9);
        answers("10 day: none of seven wares is thrown away", () -> idle(7), BarterRings::day, 0, x -> x.count(7), 7);
        answers("10 day: all of seven wares are thrown away", () -> {
            BarterRings x = idle(7);
            for (int kind = 0; kind < 6; kind++) {
                x.life(kind, 1);
            }
            return x;
        }, BarterRings::day, 7, x -> x.count(7), 14);
        test("10 day: one of two wares is thrown away", () -> {
            BarterRings x = idle(2);
            x.life(1, 1);
            due("day()", x.day(), 1);
            due("age of the one that stays", x.trader(0, 3), 1);
            due("age of the one made anew", x.trader(1, 3), 0);
            due("thrown away so far", x.count(6), 1);
            due("made so far", x.count(7), 3);
        });
        test("10 day: no need is met, and none is lost", () -> {
            BarterRings x = greedy(3);
            x.day();
            due("needs met", x.count(3), 0);
            due("needs", x.count(2), 18);
        });
    }

    private void thrownAt(String name, int age, int life, int thrown) {
        test("10 day: a ware of the age " + age + " with the life " + life + ", " + name, () -> {
            BarterRings x = aged(age);
            x.life(0, life);
            due("day()", x.day(), thrown);
            due("its age then", x.trader(0, 3), thrown == 1 ? 0 : age + 1);
            due("made so far", x.count(7), 1 + thrown);
        });
    }

    private void dayOfWares() {
        thrownAt("the least of both, is thrown away", 0, 1, 1);
        thrownAt("which is 2 more, stays", 0, 2, 0);
        thrownAt("which is 2 more, stays", 7, 9, 0);
        thrownAt("which is 1 more, is thrown away", 8, 9, 1);
        thrownAt("spoilt already, is thrown away", 8, 8, 1);
        thrownAt("spoilt long ago, is thrown away", 8, 1, 1);
        test("10 day: a trader makes the own kind anew, not that of the ware that is thrown away", () -> {
            BarterRings x = agedPair(8);
            x.call();
            due("day()", x.day(), 2);
            due("the ware of 0", x.trader(0, 2), 0);
            due("the ware of 1", x.trader(1, 2), 1);
            due("the age of the ware of 0", x.trader(0, 3), 0);
        });
        test("10 day: a ware of the life 1 is made anew each day", () -> {
            BarterRings x = idle(1);
            x.life(0, 1);
            for (int day = 1; day <= 3; day++) {
                due("day()", x.day(), 1);
                due("made so far", x.count(7), 1 + day);
            }
        });
        test("10 day: the ware of one whose stall is shut ages and is made anew, too", () -> {
            BarterRings x = idle(1);
            x.life(0, 2);
            dayWithShut(x, 0);
            due("its age", x.trader(0, 3), 1);
            due("day()", x.day(), 1);
        });
    }

    private void lotFrom(String name, int lot, int drawn) {
        answers("Deeds: the lot drawn from " + lot + ", " + name, () -> {
            BarterRings x = new BarterRings();
            x.lot(lot);
            return x;
        }, BarterRings::day, 0, x -> x.count(12), drawn);
    }

    private void lots() {
        lotFrom("the least", 0, 1663);
        lotFrom("the first one", 1, 2084);
        lotFrom("the last one that does not wrap around", 19, 9662);
        lotFrom("the first one that wraps around", 20, 83);
        lotFrom("which wraps around to 0", 7597, 0);
        lotFrom("which comes to 9999, just not wrapped around", 9616, 9999);
        lotFrom("which wraps around to 1", 5578, 1);
        lotFrom("the greatest", 9999, 1242);
        answers("Deeds: the lot is 1 at first", BarterRings::new, x -> x.count(12), 1);
        test("Deeds: from the first lot on, each is drawn from the one before", () -> {
            BarterRings x = new BarterRings();
            int[] lots = {2084, 9027, 2030, 6293};
            for (int lot : lots) {
                x.day();
                due("the lot", x.count(12), lot);
            }
        });
    }

    /** The lots 1663, 2084, 2505, .. are drawn from 0, 1, 2, ..; each with its remainder by the traders and 1. */
    private void stallFrom(String name, int traders, int lot, int shut) {
        test("Deeds: " + name + ", of " + traders + " traders", () -> {
            BarterRings x = idle(traders);
            x.lot(lot);
            x.day();
            due("the shut stall", x.count(13), shut);
            for (int trader = 0; trader < traders; trader++) {
                due("trader(" + trader + ", 5)", x.trader(trader, 5), trader == shut ? 1 : 0);
            }
        });
    }

    private void shutStalls() {
        for (int trader = 0; trader < 7; trader++) {
            int one = trader;
            answers("Deeds: on the day 0 the stall of " + trader + " is not shut",
                () -> idle(7), x -> x.trader(one, 5), 0);
        }
        answers("Deeds: on the day 0 no stall is shut", () -> idle(7), x -> x.count(13), NOT_FOUND);
        stallFrom("the remainder 0 of 1663 by 1 is the number of traders, so none is shut", 0, 0, NOT_FOUND);
        stallFrom("the remainder 0 of 2084 by 2 shuts the stall of 0", 1, 1, 0);
        stallFrom("the remainder 1 of 1663 by 2 is the number of traders, so none is shut", 1, 0, NOT_FOUND);
        stallFrom("the remainder 0 of 2505 by 3 shuts the first stall", 2, 2, 0);
        stallFrom("the remainder 1 of 1663 by 3 shuts the last stall", 2, 0, 1);
        stallFrom("the remainder 2 of 2084 by 3 is the number of traders, so none is shut", 2, 1, NOT_FOUND);
        stallFrom("the remainder 0 of 3768 by 8 shuts the first stall", 7, 5, 0);
        stallFrom("the remainder 6 of 9662 by 8 shuts the last stall", 7, 19, 6);
        stallFrom("the remainder 7 of 1663 by 8 is the number of traders, so none is shut", 7, 0, NOT_FOUND);
        stallFrom("the remainder 0 of the lot 0 shuts the first stall", 7, 7597, 0);
        test("Deeds: on the next day no other stall is shut any more", () -> {
            BarterRings x = idle(3);
            dayWithShut(x, 1);
            due("trader(1, 5)", x.trader(1, 5), 1);
            dayWithShut(x, 2);
            due("trader(1, 5) on the next day", x.trader(1, 5), 0);
            due("trader(2, 5) on the next day", x.trader(2, 5), 1);
            dayWithShut(x, 3);
            due("trader(2, 5) on the day behind", x.trader(2, 5), 0);
            due("the shut stall", x.count(13), NOT_FOUND);
        });
        test("Deeds: the same stall can be shut on two days", () -> {
            BarterRings x = idle(3);
            dayWithShut(x, 1);
            dayWithShut(x, 1);
            due("trader(1, 5)", x.trader(1, 5), 1);
        });
        test("Deeds: one who comes on a day without a shut stall, with the number drawn, is not shut", () -> {
            BarterRings x = idle(2);
            dayWithShut(x, 2);
            x.come(2, 0);
            due("trader(2, 5)", x.trader(2, 5), 0);
            due("the shut stall", x.count(13), NOT_FOUND);
        });
        test("Deeds: the number of traders is that of the day that passes", () -> {
            BarterRings x = idle(1);
            x.come(1, 0);
            x.lot(0);
            x.day();
            due("the remainder of 1663 by 3", x.count(13), 1);
        });
    }
}
