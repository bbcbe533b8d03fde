import java.util.function.Supplier;
import java.util.function.ToIntFunction;

/** The boundary cases of the section "Changes and errors" and of the promises 27 to 29: undo and the snapshot. */
final class ChangesCases extends CaseBook {
    private static final int MOST_STATES = 4;

    @Override
    void cases() {
        constants();
        changes();
        changesOfNothing();
        noChanges();
        errorsInOrder();
        historyThatFills();
        undo();
        undoAndTheRest();
        save();
        restore();
        restoreAndTheRest();
    }

    private void constants() {
        test("Changes and errors: INVALID_ARGUMENT is -1", () -> due("the constant", INVALID, -1));
        test("Changes and errors: NOT_POSSIBLE is -2", () -> due("the constant", NOT_POSSIBLE, -2));
        test("Changes and errors: LIMIT_REACHED is -3", () -> due("the constant", LIMIT, -3));
        test("Changes and errors: NOT_FOUND is -4", () -> due("the constant", NOT_FOUND, -4));
    }

    /** Three traders, the first one's stall shut, with needs met, two states, and a snapshot of the day before. */
    private static BarterRings begun() {
        BarterRings x = written("0>1,1>02,2>0");
        x.traders();
        x.save();
        write(x, "x01d");
        x.days();
        return x;
    }

    // ---- what is a change

    /** It takes one state more, undo brings all back, and in a full history the oldest state makes room. */
    private void change(String name, ToIntFunction<BarterRings> call) {
        test("Changes and errors: " + name + " is a change", () -> {
            BarterRings x = begun();
            int states = x.count(15);
            tell(call.applyAsInt(x) >= 0, "it is refused");
            due("states", x.count(15), states + 1);
        });
        test("Changes and errors: " + name + " is undone", () -> {
            BarterRings x = begun();
            int states = x.count(15);
            String before = told(x);
            call.applyAsInt(x);
            due("undo()", x.undo(), states);
            tell(told(x).equals(before), "left " + told(x) + ", due is " + before);
        });
        test("Changes and errors: " + name + " with a full history drops the oldest state", () -> {
            BarterRings x = begun();
            String before = told(x);
            x.circle(6);
            String oldest = told(x);
            x.circle(5);
            x.circle(4);
            x.circle(3);
            due("states", x.count(15), MOST_STATES);
            call.applyAsInt(x);
            due("states", x.count(15), MOST_STATES);
            for (int left = MOST_STATES - 1; left >= 0; left--) {
                due("undo()", x.undo(), left);
            }
            due("undo() of more", x.undo(), NOT_POSSIBLE);
            tell(told(x).equals(oldest) && !oldest.equals(before), "left " + told(x) + ", due is " + oldest);
        });
    }

    private void changes() {
        change("come()", x -> x.come(3, 3));
        change("go()", x -> x.go(1));
        change("want()", x -> x.want(2, 33));
        change("life()", x -> x.life(1, 9));
        change("circle()", x -> x.circle(2));
        change("lot()", x -> x.lot(77));
        change("barter() that is done", x -> x.barter(1, 2));
        change("barter() that is refused for the reason 1", x -> x.barter(0, 1));
        change("call() in which two barter", BarterRings::call);
        change("day()", BarterRings::day);
        change("traders()", x -> {
            write(x, "3>45,0>1");
            return x.traders();
        });
        change("days()", x -> {
            write(x, "ddddcx01");
            return x.days();
        });
        change("restore()", BarterRings::restore);
    }

    /** Nothing but the states is otherwise behind it, and it is a change all the same. */
    private void changeOfNothing(String name, ToIntFunction<BarterRings> call) {
        test("Changes and errors: " + name + " is a change", () -> {
            BarterRings x = begun();
            String before = told(x);
            tell(call.applyAsInt(x) >= 0, "it is refused");
            tell(told(x).equals(before), "left " + told(x) + ", due is " + before);
            due("states", x.count(15), 3);
            due("undo()", x.undo(), 2);
            tell(told(x).equals(before), "undo left " + told(x) + ", due is " + before);
        });
    }

    private void changesOfNothing() {
        changeOfNothing("want() of what is wanted", x -> x.want(2, 1));
        changeOfNothing("life() of the life that it is", x -> x.life(0, 3));
        changeOfNothing("circle() of the CIRCLE that it is", x -> x.circle(7));
        changeOfNothing("lot() of the lot that it is", x -> x.lot(2084));
        changeOfNothing("days() in which nothing is done", x -> {
            write(x, "x03dc");
            return x.days();
        });
        changeOfNothing("restore() of what is there", x -> {
            x.save();
            return x.restore();
        });
        test("Changes and errors: call() without traders is a change", () -> {
            BarterRings x = new BarterRings();
            x.call();
            due("undo()", x.undo(), 0);
            due("market calls", x.count(8), 0);
        });
        test("Changes and errors: day() without traders is a change", () -> {
            BarterRings x = new BarterRings();
            x.day();
            due("undo()", x.undo(), 0);
            due("the day", x.count(0), 0);
            due("the lot", x.count(12), 1);
        });
    }

    private void noChange(String name, ToIntFunction<BarterRings> call) {
        test("Changes and errors: " + name + " is no change", () -> {
            BarterRings x = begun();
            String before = told(x);
            call.applyAsInt(x);
            due("states", x.count(15), 2);
            tell(told(x).equals(before), "left " + told(x) + ", due is " + before);
        });
    }

    private void noChanges() {
        noChange("append()", x -> x.append('c'));
        noChange("clear()", BarterRings::clear);
        noChange("fault()", x -> x.fault(0));
        noChange("why()", x -> x.why(0));
        noChange("trader()", x -> x.trader(1, 9));
        noChange("can()", x -> x.can(1, 2));
        noChange("whyNot() with a reason", x -> x.whyNot(0, 1));
        noChange("most()", x -> x.most(1));
        noChange("kind()", x -> x.kind(1, 1));
        noChange("count()", x -> x.count(15));
        noChange("freshness()", x -> (int) x.freshness());
        noChange("ifCircle()", x -> x.ifCircle(2));
        noChange("ifDays()", x -> x.ifDays(20, 0));
        noChange("bestWant()", x -> x.bestWant(0));
        noChange("save()", BarterRings::save);
        noChange("a call of come() that returns an error", x -> x.come(6, 0));
        noChange("a call of days() that returns an error", BarterRings::days);
    }

    private void errorsInOrder() {
        unchanged("Changes and errors: INVALID_ARGUMENT rather than LIMIT_REACHED, come()", () -> idle(7),
            x -> x.come(-1, 0), INVALID);
        unchanged("Changes and errors: INVALID_ARGUMENT rather than LIMIT_REACHED, append()",
            () -> written("c".repeat(60)), x -> x.append(0), INVALID);
        unchanged("Changes and errors: NOT_POSSIBLE rather than LIMIT_REACHED, traders()", () -> {
            BarterRings x = idle(7);
            write(x, "0>1,1");
            return x;
        }, BarterRings::traders, NOT_POSSIBLE);
        unchanged("Changes and errors: INVALID_ARGUMENT rather than NOT_FOUND, trader()", () -> idle(7),
            x -> x.trader(7, 9), INVALID);
        unchanged("Changes and errors: INVALID_ARGUMENT rather than NOT_FOUND, fault()", () -> written("c"),
            x -> x.fault(-1), INVALID);
        unchanged("Changes and errors: INVALID_ARGUMENT rather than NOT_FOUND, why()", BarterRings::new,
            x -> x.why(2), INVALID);
        unchanged("Changes and errors: INVALID_ARGUMENT rather than NOT_FOUND, count()", BarterRings::new,
            x -> x.count(16), INVALID);
        unchanged("Changes and errors: INVALID_ARGUMENT rather than NOT_FOUND, bestWant()", () -> greedy(1),
            x -> x.bestWant(1), INVALID);
        unchanged("Changes and errors: an error rather than a reason, barter()", () -> idle(2),
            x -> x.barter(1, 1), INVALID);
        unchanged("Changes and errors: an error rather than a reason, whyNot()", () -> idle(2),
            x -> x.whyNot(1, 1), INVALID);
    }

    // ---- the history

    /** The CIRCLE is 7 at first, then 2, 3, 4, .. */
    private static BarterRings changed(int times) {
        BarterRings x = new BarterRings();
        for (int time = 0; time < times; time++) {
            x.circle(2 + time);
        }
        return x;
    }

    private void historyThatFills() {
        int[] states = {0, 1, 2, 3, 4, 4, 4};
        int[] circles = {7, 7, 7, 7, 7, 2, 3};
        for (int changes = 0; changes < states.length; changes++) {
            int times = changes;
            test("Changes and errors: states of " + changes + " changes", () -> {
                BarterRings x = changed(times);
                due("states", x.count(15), states[times]);
                for (int left = states[times] - 1; left >= 0; left--) {
                    due("undo()", x.undo(), left);
                }
                due("the CIRCLE of the oldest state", x.count(11), circles[times]);
                due("undo() of more", x.undo(), NOT_POSSIBLE);
                due("the CIRCLE that stays", x.count(11), circles[times]);
            });
        }
        test("Changes and errors: forty changes, each of which drops the oldest state", () -> {
            BarterRings x = new BarterRings();
            for (int change = 0; change < 40; change++) {
                x.day();
            }
            for (int left = MOST_STATES - 1; left >= 0; left--) {
                due("undo()", x.undo(), left);
                due("the day", x.count(0), 36 + left);
            }
        });
    }

    private void undo() {
        unchanged("27 undo: no change at all", BarterRings::new, BarterRings::undo, NOT_POSSIBLE);
        unchanged("27 undo: the pad alone was written", () -> written("c"), BarterRings::undo, NOT_POSSIBLE);
        unchanged("27 undo: all was undone", () -> {
            BarterRings x = changed(1);
            x.undo();
            return x;
        }, BarterRings::undo, NOT_POSSIBLE);
        answers("27 undo: 0, the last state", () -> changed(1), BarterRings::undo, 0, x -> x.count(11), 7);
        answers("27 undo: 3, of a full history", () -> changed(4), BarterRings::undo, 3, x -> x.count(11), 4);
        answers("27 undo: 3, of a history that dropped a state",
            () -> changed(5), BarterRings::undo, 3, x -> x.count(11), 5);
        test("27 undo: an undo cannot be undone", () -> {
            BarterRings x = changed(2);
            x.undo();
            due("undo()", x.undo(), 0);
            due("CIRCLE", x.count(11), 7);
        });
        test("27 undo: a change behind an undo takes the place of what was undone", () -> {
            BarterRings x = changed(4);
            x.undo();
            x.undo();
            x.circle(6);
            due("states", x.count(15), 3);
            due("undo()", x.undo(), 2);
            due("CIRCLE", x.count(11), 3);
            due("undo()", x.undo(), 1);
            due("CIRCLE", x.count(11), 2);
        });
        test("27 undo: a full history is full again behind an undo and a change", () -> {
            BarterRings x = changed(4);
            x.undo();
            x.circle(6);
            due("states", x.count(15), 4);
            x.circle(6);
            due("states", x.count(15), 4);
            int[] circles = {6, 4, 3, 2};
            for (int circle : circles) {
                x.undo();
                due("CIRCLE", x.count(11), circle);
            }
            due("undo()", x.undo(), NOT_POSSIBLE);
        });
        test("27 undo: changes and undos in turn, far more than four", () -> {
            BarterRings x = changed(3);
            for (int round = 0; round < 10; round++) {
                x.lot(round);
                due("undo()", x.undo(), 3);
                due("CIRCLE", x.count(11), 4);
                due("the lot", x.count(12), 1);
            }
        });
    }

    private void undoAndTheRest() {
        test("27 undo: a full pad stays", () -> {
            BarterRings x = idle(1);
            write(x, "d".repeat(60));
            x.undo();
            due("the length", x.count(14), 60);
            due("the fault", x.fault(1), NOT_FOUND);
        });
        test("27 undo: an empty pad stays empty, though there was a text at the change", () -> {
            BarterRings x = written("ccc");
            x.day();
            x.clear();
            x.undo();
            due("the length", x.count(14), 0);
        });
        test("27 undo: the text of days() is not brought back", () -> {
            BarterRings x = written("ccc");
            x.days();
            x.undo();
            due("the length", x.count(14), 0);
        });
        test("27 undo: a snapshot that was taken stays", () -> {
            BarterRings x = new BarterRings();
            x.day();
            x.save();
            x.undo();
            due("the day", x.count(0), 0);
            due("restore()", x.restore(), 1);
        });
        test("27 undo: of a restore, behind which the snapshot stays", () -> {
            BarterRings x = new BarterRings();
            x.save();
            x.day();
            x.restore();
            due("undo()", x.undo(), 1);
            due("the day", x.count(0), 1);
            due("restore()", x.restore(), 0);
        });
        test("27 undo: why() stays", () -> {
            BarterRings x = written("cx01");
            x.days();
            x.undo();
            due("why(1)", x.why(1), 1);
        });
        test("27 undo: seven traders are there again, when all went", () -> {
            BarterRings x = greedy(7);
            for (int gone = 0; gone < 4; gone++) {
                x.go(0);
            }
            for (int undone = 0; undone < 4; undone++) {
                x.undo();
            }
            due("traders", x.count(1), 7);
            due("most(1)", x.most(1), 7);
            due("makes of the last one", x.trader(6, 0), 0);
        });
    }

    // ---- the snapshot

    private void save() {
        answers("28 save: the day 0, no trader at all", BarterRings::new, BarterRings::save, 0, x -> x.count(15), 0);
        answers("28 save: the day 8 of one trader", () -> aged(8), BarterRings::save, 8, x -> x.count(15), 4);
        answers("28 save: with a full history", () -> changed(4), BarterRings::save, 0, x -> x.count(15), 4);
        answers("28 save: with a full pad",
            () -> written("c".repeat(60)), BarterRings::save, 0, x -> x.count(14), 60);
        test("28 save: in place of the snapshot that was", () -> {
            BarterRings x = new BarterRings();
            x.save();
            x.day();
            due("save()", x.save(), 1);
            x.day();
            due("restore()", x.restore(), 1);
        });
        test("28 save: of a market without traders, in place of one with seven", () -> {
            BarterRings x = greedy(7);
            x.save();
            for (int gone = 0; gone < 7; gone++) {
                x.go(0);
            }
            x.save();
            x.come(1, 1);
            x.restore();
            due("traders", x.count(1), 0);
        });
        test("28 save: the pad is no part of it", () -> {
            BarterRings x = written("ccc");
            x.save();
            x.clear();
            x.restore();
            due("the length", x.count(14), 0);
        });
        test("28 save: the history is no part of it", () -> {
            BarterRings x = changed(3);
            x.save();
            x.undo();
            x.undo();
            x.restore();
            due("states", x.count(15), 2);
            due("undo()", x.undo(), 1);
            due("CIRCLE", x.count(11), 2);
        });
        test("28 save: why() is no part of it", () -> {
            BarterRings x = written("x01");
            x.days();
            x.save();
            write(x, "c");
            x.days();
            x.restore();
            due("why(0)", x.why(0), NOT_FOUND);
        });
    }

    private void restoredBehind(String name, ToIntFunction<BarterRings> call) {
        test("29 restore: behind " + name, () -> {
            BarterRings x = begun();
            x.save();
            String before = told(x);
            call.applyAsInt(x);
            due("restore()", x.restore(), 1);
            tell(told(x).equals(before), "left " + told(x) + ", due is " + before);
        });
    }

    private void restore() {
        unchanged("29 restore: no snapshot, no trader", BarterRings::new, BarterRings::restore, NOT_POSSIBLE);
        unchanged("29 restore: no snapshot, seven traders", () -> greedy(7), BarterRings::restore, NOT_POSSIBLE);
        unchanged("29 restore: no snapshot, a full pad",
            () -> written("c".repeat(60)), BarterRings::restore, NOT_POSSIBLE);
        restoredBehind("nothing", x -> 0);
        restoredBehind("come()", x -> x.come(3, 3));
        restoredBehind("go() of the first one", x -> x.go(0));
        restoredBehind("go() of the last one", x -> x.go(2));
        restoredBehind("want()", x -> x.want(2, 33));
        restoredBehind("life()", x -> x.life(1, 9));
        restoredBehind("circle()", x -> x.circle(2));
        restoredBehind("lot()", x -> x.lot(77));
        restoredBehind("barter() that is done", x -> x.barter(1, 2));
        restoredBehind("barter() that is refused", x -> x.barter(0, 1));
        restoredBehind("call()", BarterRings::call);
        restoredBehind("day()", BarterRings::day);
        restoredBehind("undo()", BarterRings::undo);
        restoredBehind("undo() of all", x -> x.undo() + x.undo());
        restoredBehind("traders()", x -> {
            write(x, "3>45,0>1,0>1,0>1");
            return x.traders();
        });
        restoredBehind("days()", x -> {
            write(x, "ddddcx01");
            return x.days();
        });
    }

    private void restores(String name, Supplier<BarterRings> made, int day, int states) {
        answers("29 restore: " + name, made, BarterRings::restore, day, x -> x.count(15), states);
    }

    private void restoreAndTheRest() {
        restores("of the day 0, on the day 1", () -> {
            BarterRings x = new BarterRings();
            x.save();
            x.day();
            return x;
        }, 0, 2);
        restores("of the day 1, on the day 0", () -> {
            BarterRings x = new BarterRings();
            x.day();
            x.save();
            x.undo();
            return x;
        }, 1, 1);
        restores("without any change before it", () -> {
            BarterRings x = new BarterRings();
            x.save();
            return x;
        }, 0, 1);
        restores("with a full history", () -> {
            BarterRings x = changed(4);
            x.save();
            return x;
        }, 0, 4);
        test("29 restore: the snapshot stays", () -> {
            BarterRings x = idle(2);
            x.save();
            for (int round = 0; round < 3; round++) {
                x.come(3, 3);
                x.go(0);
                due("restore()", x.restore(), 0);
                due("traders", x.count(1), 2);
                due("makes of the first one", x.trader(0, 0), 0);
            }
        });
        test("29 restore: of seven traders, where none is", () -> {
            BarterRings x = greedy(7);
            x.save();
            for (int gone = 0; gone < 7; gone++) {
                x.go(0);
            }
            x.restore();
            due("traders", x.count(1), 7);
            due("come(1, 1)", x.come(1, 1), LIMIT);
            due("undo()", x.undo(), 3);
            due("traders", x.count(1), 0);
        });
        test("29 restore: of no trader, where seven are", () -> {
            BarterRings x = new BarterRings();
            x.save();
            for (int trader = 0; trader < 7; trader++) {
                x.come(trader % 6, 63);
            }
            x.restore();
            due("traders", x.count(1), 0);
            due("most(0)", x.most(0), 0);
            due("trader(0, 0)", x.trader(0, 0), INVALID);
        });
        test("29 restore: a full pad stays", () -> {
            BarterRings x = new BarterRings();
            x.save();
            write(x, "d".repeat(60));
            x.restore();
            due("the length", x.count(14), 60);
            due("the fault", x.fault(1), NOT_FOUND);
        });
        test("29 restore: why() stays", () -> {
            BarterRings x = new BarterRings();
            x.save();
            write(x, "x01");
            x.days();
            x.restore();
            due("why(1)", x.why(1), 0);
        });
    }
}
