/** Long runs of calls, made up by a fixed rule, on the class and on PlainLeases: each answer is due to be the same. */
public final class PlainRunTests {
    private static final int RUNS = 160;
    private static final int CALLS = 512;
    private static final String SIGNS = "twgd0123456789*@:-;";

    private final NumberLeases x = new NumberLeases();
    private final PlainLeases plain = new PlainLeases();
    private final int kind;
    private final int run;
    private long seed;

    private PlainRunTests(int run) {
        this.run = run;
        this.seed = run * 7919L + 1;
        this.kind = run % 4;
    }

    public static void main(String[] args) {
        for (int run = 0; run < RUNS; run++) {
            PlainRunTests one = new PlainRunTests(run);
            one.settle();
            for (int k = 0; k < CALLS; k++) {
                one.step(k);
            }
        }
        Due.end();
    }

    /** A number from 0 to below - 1. */
    private int some(int below) {
        seed = (seed * 25214903917L + 11) & ((1L << 48) - 1);
        return (int) ((seed >>> 17) % below);
    }

    /** A number in the range, now and then one beside it. */
    private int near(int least, int most) {
        int luck = some(40);
        return luck == 0 ? least - 1 : luck == 1 ? most + 1 : luck < 6 ? least : luck < 9 ? most : least + some(most - least + 1);
    }

    private int term() {
        return some(12) == 0 ? near(1, 999) : near(1, kind == 3 ? 60 : 12);
    }

    private int holder() {
        return near(0, 7);
    }

    private int number() {
        return near(0, x.setting(3) - 1) % (some(3) == 0 ? 5 : 100);
    }

    /** Small pools and low limits at first, so that wishes wait and get lost. */
    private void settle() {
        if (kind == 0) {
            same("set(3, 4)", 3, 4, 0, 8);
            same("set(1, 2)", 1, 2, 0, 8);
        } else if (kind == 1) {
            same("set(0, 0)", 0, 0, 0, 8);
            same("set(1, 3)", 1, 3, 0, 8);
        } else if (kind == 2) {
            same("set(3, 9)", 3, 9, 0, 8);
            same("set(2, 1)", 2, 1, 0, 8);
        }
    }

    private void step(int call) {
        int luck = some(100);
        if (luck < 12) {
            same("take", holder(), term(), 0, 1);
        } else if (luck < 17) {
            same("takeSpan", holder(), near(1, some(4) == 0 ? 64 : 5), term(), 2);
        } else if (luck < 38) {
            same("wish", holder(), number(), term(), 3);
        } else if (luck < 41) {
            same("unwish", holder(), number(), 0, 4);
        } else if (luck < 48) {
            int number = number();
            int has = number >= 0 && number < x.setting(3) ? x.number(number, 1) : -1;
            same("renew", has >= 0 && some(3) > 0 ? has : holder(), number, term(), 5);
        } else if (luck < 54) {
            same("giveBack", holder(), number(), number(), 6);
        } else if (luck < 66) {
            same("pass", near(1, some(8) == 0 ? 99 : 6), 0, 0, 7);
        } else if (luck < 70) {
            int setting = near(0, 3);
            int[] most = {50, 64, 1, 64};
            int value = setting < 0 || setting > 3 ? 1 : some(2) == 0 ? near(0, most[setting]) : near(0, 6);
            same("set", setting, value, 0, 8);
        } else if (luck < 82) {
            text();
        } else if (luck < 88) {
            same("undo", 0, 0, 0, 13);
        } else {
            look();
        }
        if (call % 8 == 0) {
            same("digest", 0, 0, 0, 25);
        }
    }

    private void text() {
        for (int orders = some(5); orders >= 0; orders--) {
            int from = some(x.setting(3));
            String[] kinds = {"t" + some(8) + "*" + (1 + some(20)), "w" + some(8) + "@" + from + "*" + (1 + some(30)),
                "g" + some(8) + ":" + from + "-" + (from + some(64 - from)), "d" + (1 + some(9)), "w" + some(8) + "@0*3"};
            String order = kinds[some(kinds.length)] + (orders > 0 ? ";" : "");
            for (int k = 0; k < order.length(); k++) {
                int sign = some(300) == 0 ? SIGNS.charAt(some(SIGNS.length())) : order.charAt(k);
                same("append", some(400) == 0 ? near(33, 126) : sign, 0, 0, 9);
            }
        }
        if (some(12) > 0) {
            same("run", 0, 0, 0, 12);
        }
        if (some(4) > 0) {
            same("clearBuffer", 0, 0, 0, 10);
        }
    }

    private void look() {
        same("number", number(), near(0, 8), 0, 14);
        same("holder", holder(), near(0, 7), 0, 15);
        same("span", near(0, 4), near(0, 1), 0, 16);
        same("count", near(0, 12), 0, 0, 17);
        same("setting", near(0, 3), 0, 0, 18);
        same("whoAfter", number(), near(0, some(2) == 0 ? 500 : 30), 0, 19);
        same("freeIn", near(1, some(2) == 0 ? 64 : x.setting(3)), 0, 0, 20);
        same("wishedIn", holder(), number(), 0, 21);
        same("fullness", 0, 0, 0, 22);
        same("scatter", 0, 0, 0, 23);
        same("meanHeld", 0, 0, 0, 24);
    }

    private void same(String name, int a, int b, int c, int call) {
        long want = ofPlain(a, b, c, call);
        long got;
        try {
            got = ofClass(a, b, c, call);
        } catch (RuntimeException e) {
            Class<?> thrown = e.getClass();
            got = thrown == Due.INDEX ? PlainLeases.INDEX : thrown == Due.ARGUMENT ? PlainLeases.ARGUMENT
                : thrown == Due.STATE ? PlainLeases.STATE : Long.MAX_VALUE;
        }
        Due.is("run " + run + ": " + name + "(" + a + ", " + b + ", " + c + ")", want, got);
    }

    private long ofClass(int a, int b, int c, int call) {
        return switch (call) {
            case 1 -> x.take(a, b);
            case 2 -> x.takeSpan(a, b, c);
            case 3 -> x.wish(a, b, c);
            case 4 -> x.unwish(a, b);
            case 5 -> x.renew(a, b, c);
            case 6 -> x.giveBack(a, b, c);
            case 7 -> x.pass(a);
            case 8 -> x.set(a, b);
            case 9 -> x.append(a);
            case 10 -> x.clearBuffer();
            case 12 -> x.run();
            case 13 -> x.undo();
            case 14 -> x.number(a, b);
            case 15 -> x.holder(a, b);
            case 16 -> x.span(a, b);
            case 17 -> x.count(a);
            case 18 -> x.setting(a);
            case 19 -> x.whoAfter(a, b);
            case 20 -> x.freeIn(a);
            case 21 -> x.wishedIn(a, b);
            case 22 -> x.fullness();
            case 23 -> x.scatter();
            case 24 -> Double.doubleToLongBits(x.meanHeld());
            default -> x.digest();
        };
    }

    private long ofPlain(int a, int b, int c, int call) {
        return switch (call) {
            case 1 -> plain.take(a, b);
            case 2 -> plain.takeSpan(a, b, c);
            case 3 -> plain.wish(a, b, c);
            case 4 -> plain.unwish(a, b);
            case 5 -> plain.renew(a, b, c);
            case 6 -> plain.giveBack(a, b, c);
            case 7 -> plain.pass(a);
            case 8 -> plain.set(a, b);
            case 9 -> plain.append(a);
            case 10 -> plain.clearBuffer();
            case 12 -> plain.run();
            case 13 -> plain.undo();
            case 14 -> plain.number(a, b);
            case 15 -> plain.holder(a, b);
            case 16 -> plain.span(a, b);
            case 17 -> plain.count(a);
            case 18 -> plain.setting(a);
            case 19 -> plain.whoAfter(a, b);
            case 20 -> plain.freeIn(a);
            case 21 -> plain.wishedIn(a, b);
            case 22 -> plain.fullness();
            case 23 -> plain.scatter();
            case 24 -> Double.doubleToLongBits(plain.meanHeld());
            default -> plain.digest();
        };
    }
}
