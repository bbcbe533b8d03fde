/** The boundary cases of the section "Texts" and of the promises 11 to 16: the pad and what is read from it. */
final class TextsCases extends CaseBook {
    private static final int TRADERS = 0;
    private static final int DAYS = 1;

    @Override
    void cases() {
        append();
        clear();
        faultArguments();
        kindsOfTraders();
        wantsOfTraders();
        partsOfTraders();
        signsOfDays();
        digitsOfDays();
        traders();
        tradersAtTheLimit();
        days();
        daysThatStop();
        why();
        whyThatStays();
    }

    private static String times(int times, String part) {
        return part.repeat(times);
    }

    private static BarterRings sixty() {
        return written(times(60, "c"));
    }

    // ---- the pad

    private void append() {
        answers("11 append: 33, the least code", BarterRings::new, x -> x.append(33), 1, x -> x.count(14), 1);
        answers("11 append: 126, the greatest code", BarterRings::new, x -> x.append(126), 1, x -> x.count(14), 1);
        invalidOutside("11 append: the code", 33, 126, BarterRings::append);
        unchanged("11 append: the code 99 + 65536 is not taken for 99",
            Markets::worn, x -> x.append(99 + 65536), INVALID);
        unchanged("11 append: the code 0", Markets::worn, x -> x.append(0), INVALID);
        answers("11 append: the 60th character",
            () -> written(times(59, "c")), x -> x.append('d'), 60, x -> x.count(14), 60);
        unchanged("11 append: LIMIT_REACHED at the 61st character", TextsCases::sixty, x -> x.append('c'), LIMIT);
        unchanged("11 append: of 60, a code below the least is told rather than the limit",
            TextsCases::sixty, x -> x.append(32), INVALID);
        unchanged("11 append: of 60, a code above the greatest is told rather than the limit",
            TextsCases::sixty, x -> x.append(127), INVALID);
        test("11 append: all 60 characters stand as they were appended", () -> {
            BarterRings x = written(times(20, "x01"));
            due("fault(1)", x.fault(DAYS), NOT_FOUND);
            BarterRings y = written(times(59, "c") + "d");
            y.days();
            due("market calls", y.count(8), 59);
            due("days", y.count(0), 1);
        });
        test("11 append: after clear() of 60 characters", () -> {
            BarterRings x = sixty();
            x.clear();
            due("append('d')", x.append('d'), 1);
            due("days()", x.days(), 0);
            due("market calls", x.count(8), 0);
            due("the day", x.count(0), 1);
        });
    }

    private void clear() {
        answers("Texts: the pad is empty at first", BarterRings::new, x -> x.count(14), 0);
        answers("12 clear: of an empty pad", BarterRings::new, BarterRings::clear, 0, x -> x.count(14), 0);
        answers("12 clear: of one character", () -> written("~"), BarterRings::clear, 1, x -> x.count(14), 0);
        answers("12 clear: of 60 characters", TextsCases::sixty, BarterRings::clear, 60, x -> x.count(14), 0);
        answers("12 clear: again", () -> {
            BarterRings x = sixty();
            x.clear();
            return x;
        }, BarterRings::clear, 0, x -> x.fault(DAYS), 0);
    }

    // ---- faults

    private void faultArguments() {
        invalidOutside("13 fault: the way", 0, 1, BarterRings::fault);
        unchanged("13 fault: a wrong way is told rather than NOT_FOUND", TextsCases::sixty, x -> x.fault(2), INVALID);
        unchanged("13 fault: the way 0, traders", Markets::worn, x -> x.fault(0), 0);
        unchanged("13 fault: the way 1, days", Markets::worn, x -> x.fault(1), NOT_FOUND);
    }

    private void fault(String name, int way, String text, int fault) {
        answers("Texts: " + (way == TRADERS ? "traders" : "days") + ", " + name + ", \"" + text + "\"",
            () -> written(text), x -> x.fault(way), fault, x -> x.count(14), text.length());
    }

    private void right(String name, int way, String text) {
        fault(name, way, text, NOT_FOUND);
    }

    private void kindsOfTraders() {
        fault("an empty pad has the fault 0", TRADERS, "", 0);
        right("the kind 0, the least", TRADERS, "0>1");
        right("the kind 5, the greatest", TRADERS, "5>1");
        fault("the sign ahead of 0 is no kind", TRADERS, "/>1", 0);
        fault("the digit 6 is no kind", TRADERS, "6>1", 0);
        fault("the digit 9 is no kind", TRADERS, "9", 0);
        fault("the first sign that can be written", TRADERS, "!", 0);
        fault("the last sign that can be written", TRADERS, "~", 0);
        fault("a part begins with a kind, not with a comma", TRADERS, ",", 0);
        fault("a part begins with a kind, not with an arrow", TRADERS, ">", 0);
        fault("a kind alone is not complete", TRADERS, "0", 1);
        fault("a second kind ahead of the arrow", TRADERS, "00>1", 1);
        fault("the sign ahead of the arrow's is none", TRADERS, "0=1", 1);
        fault("the sign behind the arrow's is none", TRADERS, "0?1", 1);
        fault("a comma in place of the arrow", TRADERS, "0,", 1);
        fault("of several wrong signs the first one", TRADERS, "0!!", 1);
        fault("days are no traders", TRADERS, "cdx01", 0);
    }

    private void wantsOfTraders() {
        fault("an arrow without wants is not complete", TRADERS, "0>", 2);
        fault("an arrow and a comma, so no wants", TRADERS, "0>,1>2", 2);
        fault("two arrows", TRADERS, "0>>1", 2);
        right("one wanted kind, 0, the least", TRADERS, "1>0");
        right("one wanted kind, 5, the greatest", TRADERS, "1>5");
        right("the own kind", TRADERS, "1>1");
        fault("the sign ahead of 0 is not wanted", TRADERS, "1>/", 2);
        fault("the digit 6 is not wanted", TRADERS, "1>6", 2);
        right("all six kinds, the most", TRADERS, "1>012345");
        fault("a seventh kind", TRADERS, "1>0123456", 8);
        fault("the last kind twice", TRADERS, "1>0123455", 8);
        right("rising by 1", TRADERS, "1>12");
        right("rising by the most", TRADERS, "1>05");
        fault("the same again does not rise", TRADERS, "1>22", 3);
        fault("the kind 0 twice does not rise", TRADERS, "1>00", 3);
        fault("1 less does not rise", TRADERS, "1>21", 3);
        fault("rising and falling", TRADERS, "1>0243", 5);
        fault("behind 5 no digit can rise", TRADERS, "1>56", 3);
        fault("the digit 6 behind a wanted kind", TRADERS, "1>46", 3);
        fault("an arrow behind a wanted kind", TRADERS, "1>4>", 3);
        fault("another sign behind a wanted kind", TRADERS, "1>4c", 3);
    }

    private void partsOfTraders() {
        fault("the sign ahead of the comma's is none", TRADERS, "0>1+1>2", 3);
        fault("the sign behind the comma's is none", TRADERS, "0>1-1>2", 3);
        fault("a comma at the end is not complete", TRADERS, "0>1,", 4);
        fault("two commas", TRADERS, "0>1,,1>2", 4);
        fault("an arrow behind a comma", TRADERS, "0>1,>", 4);
        fault("the digit 6 behind a comma", TRADERS, "0>1,6", 4);
        fault("a kind alone behind a comma is not complete", TRADERS, "0>1,1", 5);
        fault("a part without wants behind a comma is not complete", TRADERS, "0>1,1>", 6);
        right("two parts", TRADERS, "0>1,1>0");
        right("the wants of each part rise anew", TRADERS, "0>5,0>0");
        right("seven parts", TRADERS, times(6, "0>1,") + "0>1");
        right("eight parts are no fault", TRADERS, times(7, "0>1,") + "0>1");
        right("15 parts in 59 characters are no fault", TRADERS, times(14, "0>1,") + "0>1");
        right("a full pad of traders", TRADERS, times(14, "0>1,") + "0>12");
        fault("a full pad that ends with a comma", TRADERS, times(15, "0>1,"), 60);
        fault("a full pad that is wrong at its last sign", TRADERS, times(14, "0>1,") + "0>11", 59);
        fault("a full pad that ends with an arrow", TRADERS, times(13, "0>1,") + "0>123,0>", 60);
    }

    private void signsOfDays() {
        fault("an empty pad has the fault 0", DAYS, "", 0);
        right("a market call alone", DAYS, "c");
        right("a day alone", DAYS, "d");
        right("a barter alone", DAYS, "x01");
        right("all three", DAYS, "cdx01");
        fault("the sign ahead of c", DAYS, "b", 0);
        fault("the sign behind d", DAYS, "e", 0);
        fault("the sign ahead of x", DAYS, "w01", 0);
        fault("the sign behind x", DAYS, "y01", 0);
        fault("a capital C", DAYS, "C", 0);
        fault("a capital D", DAYS, "D", 0);
        fault("a capital X", DAYS, "X01", 0);
        fault("a digit without x", DAYS, "0", 0);
        fault("the first sign that can be written", DAYS, "!", 0);
        fault("the last sign that can be written", DAYS, "~", 0);
        fault("a comma between days", DAYS, "c,d", 1);
        fault("of several wrong signs the first one", DAYS, "c!!", 1);
        fault("traders are no days", DAYS, "0>1", 0);
        right("a full pad of days", DAYS, times(60, "d"));
        right("a full pad of barters", DAYS, times(20, "x01"));
        fault("a full pad that is wrong at its last sign", DAYS, times(59, "d") + "e", 59);
        fault("a full pad that ends with x", DAYS, times(59, "d") + "x", 60);
        fault("a full pad that ends with x and a digit", DAYS, times(58, "d") + "x0", 60);
    }

    private void digitsOfDays() {
        fault("x alone is not complete", DAYS, "x", 1);
        fault("x and a digit is not complete", DAYS, "x0", 2);
        fault("x behind x", DAYS, "xx", 1);
        fault("a day behind x", DAYS, "xd", 1);
        right("the first digit 0, the least", DAYS, "x03");
        right("the first digit 6, the greatest", DAYS, "x63");
        fault("the sign ahead of 0 as the first digit", DAYS, "x/3", 1);
        fault("the first digit 7", DAYS, "x73", 1);
        right("the second digit 0, the least", DAYS, "x30");
        right("the second digit 6, the greatest", DAYS, "x36");
        fault("the sign ahead of 0 as the second digit", DAYS, "x3/", 2);
        fault("the second digit 7", DAYS, "x37", 2);
        fault("a day in place of the second digit", DAYS, "x3d", 2);
        for (int digit = 0; digit < 7; digit++) {
            fault("twice the digit " + digit, DAYS, "x" + digit + digit, 2);
        }
        fault("a third digit", DAYS, "x012", 3);
        right("the second digit as the first one of the next barter", DAYS, "x01x10");
        fault("the same digits in the second barter", DAYS, "x01x11", 5);
        right("traders who are not there are no fault", DAYS, "x56");
    }

    // ---- traders and days of the pad

    private static BarterRings with(BarterRings x, String text) {
        write(x, text);
        return x;
    }

    private void traders() {
        unchanged("14 traders: of an empty pad", BarterRings::new, BarterRings::traders, NOT_POSSIBLE);
        unchanged("14 traders: of a pad that is not complete",
            () -> wornWith("0>1,"), BarterRings::traders, NOT_POSSIBLE);
        unchanged("14 traders: of a pad with a wrong sign",
            () -> wornWith("0>1,6>1"), BarterRings::traders, NOT_POSSIBLE);
        unchanged("14 traders: of a pad of days", Markets::worn, BarterRings::traders, NOT_POSSIBLE);
        test("14 traders: one part, the least", () -> {
            BarterRings x = written("5>0");
            due("traders()", x.traders(), 1);
            due("makes", x.trader(0, 0), 5);
            due("wants", x.trader(0, 1), 1);
            due("the pad is empty", x.count(14), 0);
            due("the states", x.count(15), 1);
        });
        test("14 traders: the least kind with all wants", () -> {
            BarterRings x = written("0>012345");
            due("traders()", x.traders(), 1);
            due("makes", x.trader(0, 0), 0);
            due("wants", x.trader(0, 1), 63);
        });
        test("14 traders: each has a fresh ware, also on a later day", () -> {
            BarterRings x = with(aged(8), "4>5,0>4");
            due("traders()", x.traders(), 3);
            int[][] due = {{4, 32, 4, 0}, {0, 16, 0, 0}};
            for (int trader = 1; trader < 3; trader++) {
                for (int what = 0; what < 4; what++) {
                    due("trader(" + trader + ", " + what + ")", x.trader(trader, what), due[trader - 1][what]);
                }
            }
            due("wares made", x.count(7), 3);
        });
        test("14 traders: the second time the pad is empty", () -> {
            BarterRings x = written("0>1");
            x.traders();
            due("traders()", x.traders(), NOT_POSSIBLE);
            due("traders", x.count(1), 1);
        });
        test("14 traders: several traders are one change", () -> {
            BarterRings x = written("0>1,1>2,2>3,3>4,4>5");
            x.traders();
            due("undo()", x.undo(), 0);
            due("traders", x.count(1), 0);
            due("wares made", x.count(7), 0);
            due("the pad stays empty", x.count(14), 0);
        });
    }

    private void tradersAtTheLimit() {
        String seven = times(6, "0>1,") + "5>4";
        test("14 traders: seven at once, the most", () -> {
            BarterRings x = written(seven);
            due("traders()", x.traders(), 7);
            due("makes of the last one", x.trader(6, 0), 5);
            due("wants of the last one", x.trader(6, 1), 16);
        });
        unchanged("14 traders: eight at once", () -> written(seven + ",0>1"), BarterRings::traders, LIMIT);
        unchanged("14 traders: fifteen at once",
            () -> written(times(14, "0>1,") + "0>1"), BarterRings::traders, LIMIT);
        answers("14 traders: one, where six are", () -> with(idle(6), "0>1"), BarterRings::traders, 7);
        unchanged("14 traders: one, where seven are", () -> with(idle(7), "0>1"), BarterRings::traders, LIMIT);
        answers("14 traders: three, where four are", () -> wornWith("0>1,1>1,2>1"), BarterRings::traders, 7);
        unchanged("14 traders: four, where four are", () -> wornWith("0>1,1>1,2>1,3>1"), BarterRings::traders, LIMIT);
        unchanged("14 traders: seven, where one is", () -> with(idle(1), seven), BarterRings::traders, LIMIT);
        unchanged("14 traders: a fault is told rather than the limit", () -> with(idle(7), "0>1,"),
            BarterRings::traders, NOT_POSSIBLE);
        unchanged("14 traders: an empty pad is told rather than the limit",
            () -> idle(7), BarterRings::traders, NOT_POSSIBLE);
    }

    private void days() {
        unchanged("15 days: of an empty pad", BarterRings::new, BarterRings::days, NOT_POSSIBLE);
        unchanged("15 days: of a pad that is not complete", () -> wornWith("cdx0"), BarterRings::days, NOT_POSSIBLE);
        unchanged("15 days: of a pad with a wrong sign", () -> wornWith("cdx00"), BarterRings::days, NOT_POSSIBLE);
        unchanged("15 days: of a pad of traders", () -> wornWith("0>1"), BarterRings::days, NOT_POSSIBLE);
        answers("15 days: one market call, no trader at all",
            () -> written("c"), BarterRings::days, 0, x -> x.count(8), 1);
        answers("15 days: one day, no trader at all", () -> written("d"), BarterRings::days, 0, x -> x.count(0), 1);
        answers("15 days: one barter", () -> with(pair(), "x01"), BarterRings::days, 2, x -> x.count(3), 2);
        answers("15 days: one market call, all seven",
            () -> with(greedy(7), "c"), BarterRings::days, 7, x -> x.count(3), 7);
        answers("15 days: no need is met", () -> with(idle(7), "cdc"), BarterRings::days, 0, x -> x.count(3), 0);
        answers("15 days: sixty days, the most",
            () -> with(idle(2), times(60, "d")), BarterRings::days, 0, x -> x.count(0), 60);
        answers("15 days: sixty market calls, the most", () -> with(greedy(2), times(60, "c")), BarterRings::days, 4,
            x -> x.count(8), 60);
        answers("15 days: twenty barters, the most, of which the second is refused",
            () -> with(pair(), times(20, "x01")), BarterRings::days, 2, x -> x.count(9), 1);
        test("15 days: needs met ahead of them are not counted", () -> {
            BarterRings x = pair();
            x.call();
            x.want(0, 1);
            x.want(1, 2);
            write(x, "c");
            due("days()", x.days(), 2);
            due("needs met so far", x.count(3), 4);
        });
        test("15 days: all signs are done, one after the other", () -> {
            BarterRings x = with(greedy(2), "x01dcd");
            due("days()", x.days(), 4);
            due("market calls", x.count(8), 1);
            due("the day", x.count(0), 2);
            due("the pad is empty", x.count(14), 0);
            due("days() again", x.days(), NOT_POSSIBLE);
        });
        test("15 days: all signs together are one change", () -> {
            BarterRings x = greedy(2);
            String before = told(x);
            write(x, "x01ddcdd");
            x.days();
            due("the states", x.count(15), 3);
            due("undo()", x.undo(), 2);
            tell(told(x).equals(before), "not undone");
        });
        test("15 days: nothing is done, which is one change, too", () -> {
            BarterRings x = written("x01ccdd");
            due("days()", x.days(), 0);
            due("the states", x.count(15), 1);
            due("market calls", x.count(8), 0);
            due("the day", x.count(0), 0);
            due("the pad is empty", x.count(14), 0);
        });
    }

    private void stops(String name, BarterRings x, String text, int met, int reason, int place, int refused) {
        test("15 days: " + name + ", \"" + text + "\"", () -> {
            write(x, text);
            due("days()", x.days(), met);
            due("why(0)", x.why(0), reason);
            due("why(1)", x.why(1), place);
            due("refused deeds", x.count(9), refused);
            due("market calls", x.count(8), 0);
            due("the pad is empty", x.count(14), 0);
        });
    }

    private static BarterRings shutPair(int shut) {
        BarterRings x = pair();
        dayWithShut(x, shut);
        return x;
    }

    private static BarterRings spoiltPair() {
        BarterRings x = agedPair(1);
        x.life(0, 1);
        return x;
    }

    private void daysThatStop() {
        stops("stopped by the reason 1, the first one's stall", shutPair(0), "x01c", 0, 1, 0, 1);
        stops("stopped by the reason 1, the second one's stall", shutPair(1), "x01c", 0, 1, 0, 1);
        stops("stopped by the reason 2", spoiltPair(), "x01c", 0, 2, 0, 1);
        stops("stopped by the reason 3", pair(), "x01x01c", 2, 3, 3, 1);
        BarterRings other = pair();
        other.want(1, 0);
        stops("stopped by the reason 4", other, "x01c", 0, 4, 0, 1);
        stops("stopped, as the first one is not there", pair(), "x20c", 0, INVALID, 0, 0);
        stops("stopped, as the second one is not there", pair(), "x02c", 0, INVALID, 0, 0);
        stops("stopped, as both are not there", pair(), "x23c", 0, INVALID, 0, 0);
        stops("stopped, as nobody is there", new BarterRings(), "x01c", 0, INVALID, 0, 0);
        stops("stopped, as the seventh is not there", idle(6), "x06c", 0, INVALID, 0, 0);
        stops("stopped by the reason 3, where the seventh is there", idle(7), "x06c", 0, 3, 0, 1);
        stops("stopped behind a barter that is done", pair(), "x01x02c", 2, INVALID, 3, 0);
        stops("traders who are not there are told rather than a shut stall", shutPair(0), "x02c", 0, INVALID, 0, 0);
        stops("stopped at the last barter that the pad can hold", pair(), times(57, "d") + "x25", 0, INVALID, 57, 0);
        stops("stopped at the first one of two that would be refused", idle(2), "dx01x10c", 0, 3, 1, 1);
    }

    // ---- why

    private static BarterRings stopped() {
        return doneOn(ring(3), "ddx01cx02");
    }

    private static BarterRings doneOn(BarterRings x, String text) {
        write(x, text);
        x.days();
        return x;
    }

    private void why() {
        invalidOutside("16 why: what", 0, 1, BarterRings::why);
        unchanged("16 why: 2 is told rather than NOT_FOUND", BarterRings::new, x -> x.why(2), INVALID);
        unchanged("16 why: -1 is told rather than NOT_FOUND", BarterRings::new, x -> x.why(-1), INVALID);
        unchanged("16 why: 0 without any call of days()", BarterRings::new, x -> x.why(0), NOT_FOUND);
        unchanged("16 why: 1 without any call of days()", BarterRings::new, x -> x.why(1), NOT_FOUND);
        unchanged("16 why: 0 of a stop", Markets::worn, x -> x.why(0), 3);
        unchanged("16 why: 1 of a stop", Markets::worn, x -> x.why(1), 1);
        answers("16 why: all was done",
            () -> doneOn(pair(), "x01"), x -> x.why(0), NOT_FOUND, x -> x.why(1), NOT_FOUND);
        answers("16 why: all was done, no barter",
            () -> doneOn(pair(), "cd"), x -> x.why(0), NOT_FOUND, x -> x.why(1), NOT_FOUND);
        answers("16 why: stopped at the place 0, the least",
            () -> doneOn(idle(2), "x01"), x -> x.why(1), 0, x -> x.why(0), 3);
        answers("16 why: stopped at the place 57, the greatest",
            () -> doneOn(new BarterRings(), times(57, "c") + "x01"),
            x -> x.why(1), 57, x -> x.why(0), INVALID);
        answers("16 why: the reason is that of the barter, not INVALID_ARGUMENT", () -> doneOn(idle(2), "x10"),
            x -> x.why(0), 3);
        answers("16 why: a refused barter without days() is not told", () -> {
            BarterRings x = idle(2);
            x.barter(0, 1);
            return x;
        }, x -> x.why(0), NOT_FOUND);
    }

    private void whyBehind(String name, Call call, int reason, int place) {
        test("16 why: " + name, () -> {
            BarterRings x = stopped();
            x.save();
            call.of(x, 0);
            due("why(0)", x.why(0), reason);
            due("why(1)", x.why(1), place);
        });
    }

    private void whyThatStays() {
        whyBehind("stays behind a call of days() that returns an error, of an empty pad", (x, none) -> x.days(), 4, 2);
        whyBehind("stays behind a call of days() that returns an error, of a fault", (x, none) -> {
            write(x, "x0");
            return x.days();
        }, 4, 2);
        whyBehind("stays behind undo()", (x, none) -> x.undo(), 4, 2);
        whyBehind("stays behind restore()", (x, none) -> x.restore(), 4, 2);
        whyBehind("stays behind clear()", (x, none) -> x.clear(), 4, 2);
        whyBehind("stays behind traders()", (x, none) -> {
            write(x, "0>1");
            return x.traders();
        }, 4, 2);
        whyBehind("stays behind a refused barter()", (x, none) -> x.barter(2, 0), 4, 2);
        whyBehind("is of the latest call, a stop at another place", (x, none) -> {
            write(x, "ccx34");
            return x.days();
        }, INVALID, 2);
        whyBehind("is of the latest call, in which all was done", (x, none) -> {
            write(x, "c");
            return x.days();
        }, NOT_FOUND, NOT_FOUND);
        test("16 why: is not brought back by undo() of the latest call", () -> {
            BarterRings x = stopped();
            doneOn(x, "c");
            x.undo();
            due("why(0)", x.why(0), NOT_FOUND);
        });
        test("16 why: is not brought back by restore()", () -> {
            BarterRings x = stopped();
            x.save();
            doneOn(x, "c");
            x.restore();
            due("why(0)", x.why(0), NOT_FOUND);
        });
        test("16 why: is told, though nothing before it was a change", () -> {
            BarterRings x = doneOn(new BarterRings(), "x01");
            x.undo();
            due("why(0)", x.why(0), INVALID);
        });
    }
}
