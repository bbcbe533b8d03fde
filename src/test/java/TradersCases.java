/** The boundary cases of the promises 1 to 7: a new object, traders and kinds. */
final class TradersCases extends CaseBook {
    @Override
    void cases() {
        newObject();
        comeArguments();
        comeNumbers();
        go();
        goWithShutStall();
        want();
        life();
        circle();
        lot();
    }

    private void newObject() {
        String[] names = {"the day 0", "no traders", "no needs", "no needs met", "no wares", "no spoilt wares",
            "no wares thrown away", "no wares made", "no market calls", "no refused deeds", "no stuck traders",
            "CIRCLE 7", "the lot 1", "no shut stall", "an empty pad", "no states"};
        int[] due = {0, 0, 0, 0, 0, 0, 0, 0, 0, 0, 0, 7, 1, NOT_FOUND, 0, 0};
        for (int what = 0; what < names.length; what++) {
            int one = what;
            answers("1 new object: " + names[what], BarterRings::new, x -> x.count(one), due[what]);
        }
        unchanged("1 new object: no snapshot", BarterRings::new, BarterRings::restore, NOT_POSSIBLE);
        unchanged("1 new object: nothing to undo", BarterRings::new, BarterRings::undo, NOT_POSSIBLE);
        answers("1 new object: no call of days() yet", BarterRings::new, x -> x.why(0), NOT_FOUND);
        test("1 new object: it has nothing of another object", () -> {
            BarterRings other = worn();
            BarterRings x = new BarterRings();
            String before = allTold(x);
            other.come(1, 1);
            other.append('c');
            other.save();
            due("restore()", x.restore(), NOT_POSSIBLE);
            tell(allTold(x).equals(before), "the other object's calls are seen");
            tell(before.equals(allTold(new BarterRings())), "the other object's calls are seen at first");
        });
    }

    private void comeArguments() {
        test("2 come: makes 0, the least", () -> {
            BarterRings x = new BarterRings();
            due("come(0, 1)", x.come(0, 1), 0);
            due("makes", x.trader(0, 0), 0);
        });
        test("2 come: makes 5, the greatest", () -> {
            BarterRings x = new BarterRings();
            due("come(5, 1)", x.come(5, 1), 0);
            due("makes", x.trader(0, 0), 5);
        });
        test("2 come: wants 0, the least", () -> {
            BarterRings x = new BarterRings();
            due("come(1, 0)", x.come(1, 0), 0);
            due("wants", x.trader(0, 1), 0);
        });
        test("2 come: wants 63, the greatest", () -> {
            BarterRings x = new BarterRings();
            due("come(1, 63)", x.come(1, 63), 0);
            due("wants", x.trader(0, 1), 63);
        });
        invalidOutside("2 come: makes", 0, 5, (x, makes) -> x.come(makes, 1));
        invalidOutside("2 come: wants", 0, 63, (x, wants) -> x.come(1, wants));
        unchanged("2 come: both arguments are wrong", Markets::worn, x -> x.come(6, 64), INVALID);
        unchanged("2 come: wrong makes are told rather than the limit", () -> idle(7), x -> x.come(6, 1), INVALID);
        unchanged("2 come: wrong wants are told rather than the limit", () -> idle(7), x -> x.come(1, 64), INVALID);
    }

    private void comeNumbers() {
        for (int before = 0; before < 7; before++) {
            int traders = before;
            test("2 come: returns the number with " + traders + " there", () -> {
                BarterRings x = idle(traders);
                due("come(2, 9)", x.come(2, 9), traders);
                due("traders", x.count(1), traders + 1);
                due("wares made", x.count(7), traders + 1);
            });
        }
        unchanged("2 come: LIMIT_REACHED with 7 there", () -> idle(7), x -> x.come(0, 0), LIMIT);
        test("2 come: one of seven goes, so that another one can come", () -> {
            BarterRings x = idle(7);
            x.go(0);
            due("come(2, 9)", x.come(2, 9), 6);
            due("come(2, 9) again", x.come(2, 9), LIMIT);
        });
        test("2 come: the seventh is undone, so that another one can come", () -> {
            BarterRings x = idle(7);
            x.undo();
            due("come(2, 9)", x.come(2, 9), 6);
        });
    }

    private void go() {
        answers("3 go: the number 0, the least", () -> idle(3), x -> x.go(0), 0, x -> x.count(1), 2);
        answers("3 go: the greatest number there is", () -> idle(3), x -> x.go(2), 0, x -> x.count(1), 2);
        answers("3 go: the greatest number of seven", () -> idle(7), x -> x.go(6), 0, x -> x.count(1), 6);
        invalidOutside("3 go: the number", 0, 3, BarterRings::go);
        unchanged("3 go: no trader at all", BarterRings::new, x -> x.go(0), INVALID);
        unchanged("3 go: the number 7 of seven", () -> idle(7), x -> x.go(7), INVALID);
        test("3 go: the only one, so that nobody is left", () -> {
            BarterRings x = greedy(1);
            due("go(0)", x.go(0), 0);
            int[] whats = {1, 2, 4, 5, 10};
            for (int what : whats) {
                due("count(" + what + ")", x.count(what), 0);
            }
            due("go(0) again", x.go(0), INVALID);
            due("come(1, 1)", x.come(1, 1), 0);
        });
        answers("3 go: no need of this trader was met", () -> idle(1), x -> x.go(0), 0);
        test("3 go: needs that were met, those of this trader alone", () -> {
            BarterRings x = greedy(3);
            x.circle(2);
            x.call();
            x.circle(3);
            x.call();
            due("go(2)", x.go(2), 1);
            due("go(1)", x.go(1), 2);
            due("go(0)", x.go(0), 2);
            due("needs met so far", x.count(3), 5);
        });
        test("3 go: the ware goes, too, and is not thrown away", () -> {
            BarterRings x = idle(2);
            x.go(1);
            due("wares", x.count(4), 1);
            due("wares of the kind 1", x.kind(1, 1), 0);
            due("thrown away", x.count(6), 0);
            due("made so far", x.count(7), 2);
        });
        test("3 go: a spoilt ware goes, too", () -> {
            BarterRings x = aged(1);
            x.life(0, 1);
            x.go(0);
            due("spoilt wares", x.count(5), 0);
            due("thrown away", x.count(6), 0);
            due("day()", x.day(), 0);
        });
    }

    private void shutAfter(String name, int shut, int gone, int due) {
        test("3 go: " + name, () -> {
            BarterRings x = idle(7);
            dayWithShut(x, shut);
            x.go(gone);
            due("the shut stall", x.count(13), due);
            for (int trader = 0; trader < 6; trader++) {
                due("trader(" + trader + ", 5)", x.trader(trader, 5), trader == due ? 1 : 0);
            }
        });
    }

    private void goWithShutStall() {
        shutAfter("the first one goes, whose stall is shut", 0, 0, NOT_FOUND);
        shutAfter("the last one goes, whose stall is shut", 6, 6, NOT_FOUND);
        shutAfter("one between goes, whose stall is shut", 3, 3, NOT_FOUND);
        shutAfter("the one ahead of the shut stall's goes", 3, 2, 2);
        shutAfter("the one behind the shut stall's goes", 3, 4, 3);
        shutAfter("the first one goes, the last one's stall is shut", 6, 0, 5);
        shutAfter("the last one goes, the first one's stall is shut", 0, 6, 0);
        shutAfter("no stall is shut, the last one goes", 7, 6, NOT_FOUND);
        shutAfter("no stall is shut, the first one goes", 7, 0, NOT_FOUND);
        test("3 go: one who comes in the place of the shut stall's is not shut", () -> {
            BarterRings x = idle(2);
            dayWithShut(x, 1);
            x.go(1);
            x.come(1, 0);
            due("trader(1, 5)", x.trader(1, 5), 0);
        });
    }

    private void want() {
        answers("4 want: the number 0, the least", () -> idle(3), x -> x.want(0, 5), 0, x -> x.trader(0, 1), 5);
        answers("4 want: the greatest number there is", () -> idle(3), x -> x.want(2, 5), 0, x -> x.trader(2, 1), 5);
        answers("4 want: the greatest number of seven", () -> idle(7), x -> x.want(6, 5), 0, x -> x.trader(6, 1), 5);
        answers("4 want: the set 0, the least", () -> greedy(2), x -> x.want(1, 0), 63, x -> x.trader(1, 1), 0);
        answers("4 want: the set 63, the greatest", () -> idle(2), x -> x.want(1, 63), 0, x -> x.trader(1, 1), 63);
        answers("4 want: the set that was wanted before",
            () -> greedy(1), x -> x.want(0, 63), 63, x -> x.trader(0, 1), 63);
        invalidOutside("4 want: the number", 0, 3, (x, trader) -> x.want(trader, 1));
        invalidOutside("4 want: the set", 0, 63, (x, wants) -> x.want(1, wants));
        unchanged("4 want: no trader at all", BarterRings::new, x -> x.want(0, 1), INVALID);
        unchanged("4 want: the number 7 of seven", () -> idle(7), x -> x.want(7, 1), INVALID);
        test("4 want: the others want what they wanted", () -> {
            BarterRings x = greedy(3);
            x.want(1, 0);
            due("wants of 0", x.trader(0, 1), 63);
            due("wants of 2", x.trader(2, 1), 63);
        });
        test("4 want: a kind of which a need was met can be wanted again", () -> {
            BarterRings x = pair();
            x.call();
            due("want(0, 2)", x.want(0, 2), 0);
            due("needs", x.count(2), 1);
            due("needs met of 0", x.trader(0, 6), 1);
        });
    }

    private void life() {
        answers("5 life: the kind 0, the least", BarterRings::new, x -> x.life(0, 4), 3, x -> x.kind(0, 0), 4);
        answers("5 life: the kind 5, the greatest", BarterRings::new, x -> x.life(5, 4), 3, x -> x.kind(5, 0), 4);
        answers("5 life: 1 day, the least", BarterRings::new, x -> x.life(2, 1), 3, x -> x.kind(2, 0), 1);
        answers("5 life: 9 days, the greatest", BarterRings::new, x -> x.life(2, 9), 3, x -> x.kind(2, 0), 9);
        answers("5 life: the life that it has", BarterRings::new, x -> x.life(2, 3), 3, x -> x.kind(2, 0), 3);
        invalidOutside("5 life: the kind", 0, 5, (x, kind) -> x.life(kind, 2));
        invalidOutside("5 life: the days", 1, 9, (x, days) -> x.life(2, days));
        test("5 life: the other kinds keep theirs", () -> {
            BarterRings x = new BarterRings();
            x.life(3, 8);
            for (int kind = 0; kind < 6; kind++) {
                due("the life of " + kind, x.kind(kind, 0), kind == 3 ? 8 : 3);
            }
        });
        test("5 life: a ware that is spoilt by it is not thrown away ahead of the next day", () -> {
            BarterRings x = aged(1);
            x.life(0, 1);
            due("thrown away", x.count(6), 0);
            due("its kind", x.trader(0, 2), 0);
            due("day()", x.day(), 1);
        });
    }

    private void circle() {
        answers("6 circle: 2, the least", BarterRings::new, x -> x.circle(2), 7, x -> x.count(11), 2);
        test("6 circle: 7, the greatest", () -> {
            BarterRings x = new BarterRings();
            x.circle(2);
            due("circle(7)", x.circle(7), 2);
            due("CIRCLE", x.count(11), 7);
        });
        answers("6 circle: the value that it has", BarterRings::new, x -> x.circle(7), 7, x -> x.count(11), 7);
        invalidOutside("6 circle: the traders", 2, 7, BarterRings::circle);
    }

    private void lot() {
        answers("7 lot: 0, the least", BarterRings::new, x -> x.lot(0), 1, x -> x.count(12), 0);
        answers("7 lot: 9999, the greatest", BarterRings::new, x -> x.lot(9999), 1, x -> x.count(12), 9999);
        answers("7 lot: the lot that it is", BarterRings::new, x -> x.lot(1), 1, x -> x.count(12), 1);
        test("7 lot: of the greatest lot the least one, and back", () -> {
            BarterRings x = new BarterRings();
            x.lot(9999);
            due("lot(0)", x.lot(0), 9999);
            due("lot(9999)", x.lot(9999), 0);
            due("the lot", x.count(12), 9999);
        });
        invalidOutside("7 lot: x", 0, 9999, BarterRings::lot);
        test("7 lot: the stall that is shut today stays", () -> {
            BarterRings x = idle(2);
            dayWithShut(x, 1);
            x.lot(0);
            due("the shut stall", x.count(13), 1);
        });
    }
}
