import java.util.Random;

/** Runs of calls drawn at random, right ones and wrong ones, against the plain model of the document. */
public final class RandomRunsTest {
    private static final int RUNS = 600;
    /** An object is used for 512 calls; what is left is for the looks at the end. */
    private static final int CALLS = 300;
    private static final int[] FAR_OFF = {Integer.MIN_VALUE, -2, -1, 8, 64, 10000, Integer.MAX_VALUE};

    private static final Checks CHECKS = new Checks("RandomRunsTest");

    private final Random random;
    private final BarterRings x = new BarterRings();
    private final PlainMarket plain = new PlainMarket();
    private final int dense;
    private final StringBuilder calls = new StringBuilder();
    private int made;

    private RandomRunsTest(int seed) {
        random = new Random(seed);
        dense = 1 + random.nextInt(6);
        CHECKS.begin("run " + seed);
    }

    public static void main(String[] args) {
        for (int seed = 0; seed < RUNS && !CHECKS.anyFailed(); seed++) {
            RandomRunsTest run = new RandomRunsTest(seed);
            while (run.made < CALLS && !CHECKS.anyFailed()) {
                run.oneCall();
            }
            run.lookAtAll();
        }
        CHECKS.end();
    }

    private void same(String call, double got, double want) {
        made++;
        calls.append(call).append(' ').append(want).append("; ");
        if (got != want) {
            System.out.println(calls);
        }
        CHECKS.due(call, got, want);
    }

    /** Mostly 0 up to the bound, which is one too many, at times something far off. */
    private int upTo(int bound) {
        return random.nextInt(20) == 0 ? FAR_OFF[random.nextInt(FAR_OFF.length)] : random.nextInt(bound + 1);
    }

    private int kinds() {
        int kinds = 0;
        for (int kind = 0; kind < 6; kind++) {
            kinds |= random.nextInt(6) < dense ? 1 << kind : 0;
        }
        return random.nextInt(20) == 0 ? upTo(64) : kinds;
    }

    private void oneCall() {
        int a;
        int b;
        switch (random.nextInt(40)) {
            case 0: case 1: case 2: case 3:
                a = upTo(6); b = kinds(); same("come(" + a + ", " + b + ")", x.come(a, b), plain.come(a, b)); break;
            case 4:
                a = upTo(7); same("go(" + a + ")", x.go(a), plain.go(a)); break;
            case 5: case 6:
                a = upTo(7); b = kinds(); same("want(" + a + ", " + b + ")", x.want(a, b), plain.want(a, b)); break;
            case 7:
                a = upTo(6); b = upTo(10); same("life(" + a + ", " + b + ")", x.life(a, b), plain.life(a, b)); break;
            case 8:
                a = upTo(8); same("circle(" + a + ")", x.circle(a), plain.circle(a)); break;
            case 9:
                a = upTo(10000); same("lot(" + a + ")", x.lot(a), plain.lot(a)); break;
            case 10: case 11: case 12:
                a = upTo(7); b = upTo(7); same("barter(" + a + ", " + b + ")", x.barter(a, b), plain.barter(a, b)); break;
            case 13: case 14:
                same("call()", x.call(), plain.call()); break;
            case 15: case 16:
                same("day()", x.day(), plain.day()); break;
            case 17:
                a = random.nextInt(130); same("append(" + a + ")", x.append(a), plain.append(a)); break;
            case 18:
                same("clear()", x.clear(), plain.clear()); break;
            case 19: case 20:
                write(someTraders()); same("traders()", x.traders(), plain.traders()); break;
            case 21: case 22: case 23:
                write(someDays()); same("days()", x.days(), plain.days()); break;
            case 24:
                same("undo()", x.undo(), plain.undo()); break;
            case 25:
                same("save()", x.save(), plain.save()); break;
            case 26:
                same("restore()", x.restore(), plain.restore()); break;
            case 27: case 28:
                a = upTo(20); b = upTo(3); same("ifDays(" + a + ", " + b + ")", x.ifDays(a, b), plain.ifDays(a, b)); break;
            case 29:
                a = upTo(7); same("bestWant(" + a + ")", x.bestWant(a), plain.bestWant(a)); break;
            default:
                look(); break;
        }
    }

    private void look() {
        int a = upTo(7);
        int b = upTo(10);
        int count = upTo(16);
        same("trader(" + a + ", " + b + ")", x.trader(a, b), plain.trader(a, b));
        same("can(" + a + ", " + b + ")", x.can(a, b), plain.can(a, b));
        same("whyNot(" + a + ", " + b + ")", x.whyNot(a, b), plain.whyNot(a, b));
        same("kind(" + a + ", " + b + ")", x.kind(a, b), plain.kind(a, b));
        same("count(" + count + ")", x.count(count), plain.count(count));
        same("freshness()", x.freshness(), plain.freshness());
        switch (random.nextInt(4)) {
            case 0:
                same("most(" + a + ")", x.most(a), plain.most(a)); break;
            case 1:
                same("ifCircle(" + a + ")", x.ifCircle(a), plain.ifCircle(a)); break;
            case 2:
                same("why(" + b + ")", x.why(b), plain.why(b)); break;
            default:
                same("fault(" + b + ")", x.fault(b), plain.fault(b)); break;
        }
    }

    private void lookAtAll() {
        for (int trader = 0; trader < 7; trader++) {
            for (int what = 0; what < 10; what++) {
                same("trader(" + trader + ", " + what + ")", x.trader(trader, what), plain.trader(trader, what));
            }
        }
        for (int kind = 0; kind < 6; kind++) {
            for (int what = 0; what < 6; what++) {
                same("kind(" + kind + ", " + what + ")", x.kind(kind, what), plain.kind(kind, what));
            }
        }
        for (int what = 0; what < 16; what++) {
            same("count(" + what + ")", x.count(what), plain.count(what));
        }
        same("most(0)", x.most(0), plain.most(0));
        same("most(1)", x.most(1), plain.most(1));
        for (int length = 2; length < 8; length++) {
            same("ifCircle(" + length + ")", x.ifCircle(length), plain.ifCircle(length));
        }
    }

    // ---- texts

    private void write(String text) {
        if (random.nextInt(4) != 0) {
            same("clear()", x.clear(), plain.clear());
        }
        for (char sign : text.toCharArray()) {
            same("append(" + (int) sign + ")", x.append(sign), plain.append(sign));
        }
        for (int way = 0; way < 2; way++) {
            same("fault(" + way + ")", x.fault(way), plain.fault(way));
        }
    }

    private String spoil(StringBuilder text) {
        if (text.length() > 0 && random.nextInt(5) == 0) {
            text.setCharAt(random.nextInt(text.length()), "0123456789,>cdx/:".charAt(random.nextInt(17)));
        }
        return text.toString();
    }

    private String someTraders() {
        StringBuilder text = new StringBuilder();
        int parts = 1 + random.nextInt(4);
        for (int part = 0; part < parts; part++) {
            text.append(part == 0 ? "" : ",").append(random.nextInt(6)).append('>');
            for (int kind = 0; kind < 6; kind++) {
                text.append(random.nextInt(6) < dense ? "" + kind : "");
            }
        }
        return spoil(text);
    }

    private String someDays() {
        StringBuilder text = new StringBuilder();
        int signs = 1 + random.nextInt(6);
        for (int sign = 0; sign < signs; sign++) {
            int one = random.nextInt(7);
            String[] ways = {"c", "d", "x" + one + (one + 1 + random.nextInt(6)) % 7};
            text.append(ways[random.nextInt(3)]);
        }
        return spoil(text);
    }
}
