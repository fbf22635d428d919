import java.util.HashSet;
import java.util.Set;

/** Promises 10 to 13: the buffer, its first error, and the orders in it. */
public final class TextTests {
    private static final Set<String> ORDERS = new HashSet<>();
    private static final Set<String> BEGINNINGS = new HashSet<>();

    public static void main(String[] args) {
        listOrders();
        appends();
        clears();
        firstErrorsByHand();
        firstErrorsOfEachOrder();
        firstErrorsOfEachNextSign();
        firstErrorsOfChains();
        runs();
        runsUpToTheFirstThatWouldThrow();
        runRefuses();
        runIsOneUndo();
        Due.end();
    }

    private static void listOrders() {
        for (int holder = 0; holder < 8; holder++) {
            for (int term = 1; term <= 99; term++) {
                ORDERS.add("t" + holder + "*" + term);
            }
            for (int from = 0; from < 64; from++) {
                for (int term = 1; term <= 99; term++) {
                    ORDERS.add("w" + holder + "@" + from + "*" + term);
                }
                for (int to = from; to < 64; to++) {
                    ORDERS.add("g" + holder + ":" + from + "-" + to);
                }
            }
        }
        for (int by = 1; by <= 99; by++) {
            ORDERS.add("d" + by);
        }
        for (String order : ORDERS) {
            for (int end = 0; end <= order.length(); end++) {
                BEGINNINGS.add(order.substring(0, end));
            }
        }
    }

    /** The document's own words: no orders as a text begin with these characters. */
    private static boolean begins(String text) {
        String[] parts = text.split(";", -1);
        for (int k = 0; k < parts.length - 1; k++) {
            if (!ORDERS.contains(parts[k])) {
                return false;
            }
        }
        return BEGINNINGS.contains(parts[parts.length - 1]);
    }

    private static int firstErrorDue(String text) {
        for (int k = 0; k < text.length(); k++) {
            if (!begins(text.substring(0, k + 1))) {
                return k;
            }
        }
        return text.length();
    }

    private static boolean isComplete(String text) {
        for (String part : text.split(";", -1)) {
            if (!ORDERS.contains(part)) {
                return false;
            }
        }
        return true;
    }

    private static NumberLeases typed(String text) {
        NumberLeases x = new NumberLeases();
        Due.type(x, text);
        return x;
    }

    private static void appends() {
        NumberLeases x = new NumberLeases();
        Due.is("10: append(33)", 1, x.append(33));
        Due.is("10: append(126)", 2, x.append(126));
        Due.refused(x, "10: append(32)", Due.ARGUMENT, () -> x.append(32));
        Due.refused(x, "10: append(127)", Due.ARGUMENT, () -> x.append(127));
        Due.refused(x, "10: append(-1)", Due.ARGUMENT, () -> x.append(-1));
        Due.refused(x, "10: append('d' + 65536)", Due.ARGUMENT, () -> x.append('d' + 65536));
        for (int length = 3; length <= 60; length++) {
            Due.is("10: append(100)", length, x.append(100));
        }
        Due.refused(x, "10: append(100) to 60", Due.STATE, () -> x.append(100));
        Due.refused(x, "10: append(32) to 60", Due.ARGUMENT, () -> x.append(32));
        Due.is("10: it saves nothing", 0, x.count(12));
    }

    private static void clears() {
        NumberLeases x = typed("t0*1");
        Due.is("11: clearBuffer()", 4, x.clearBuffer());
        Due.is("11: clearBuffer() again", 0, x.clearBuffer());
        Due.is("11: it saves nothing", 0, x.count(12));
        Due.type(x, "d2");
        Due.is("11: only the new text is read", 2, x.firstError());
        Due.is("11: and run", 1, x.run());
        Due.is("11: the time", 2, x.count(0));
    }

    private static void firstErrorsByHand() {
        String[] texts = {"", "t", "t7*99", "t8*1", "t0@1", "t0*0", "t0*01", "t0*100", "t0*1;", "t0*1;;", ";d1", "d1;d2",
            "w0@63*1", "w0@64*1", "w0@7*1", "w0@70*1", "w0@00*1", "g0:15-14", "g0:15-1", "g0:15-1;", "g0:15-2", "g0:15-2;",
            "g0:15-7", "g0:63-62", "g0:7-10", "g0:7-6;", "g0:64-1", "g0:0-0", "g0:0-00", "d0", "d99", "d100", "T0*1", "d1 "};
        int[] due = {0, 1, 5, 1, 2, 3, 3, 5, 5, 5, 0, 5, 7, 4, 6, 4, 4, 7, 7, 7, 7, 7, 6, 7, 7, 6, 4, 6, 6, 1, 3, 3, 0, 2};
        for (int k = 0; k < texts.length; k++) {
            String text = texts[k].replace(' ', '!');
            Due.is("12: firstError() of " + text, due[k], typed(text).firstError());
            Due.is("12: the tests' own rule for " + text, due[k], firstErrorDue(text));
        }
    }

    private static void firstErrorsOfEachOrder() {
        for (String order : ORDERS) {
            NumberLeases x = typed(order);
            if (x.firstError() != order.length()) {
                Due.is("12: firstError() of " + order, order.length(), x.firstError());
            }
            x.run();
        }
    }

    /** Each sign behind each beginning of an order, but for wishes with other holders and terms than a few. */
    private static void firstErrorsOfEachNextSign() {
        int many = 0;
        for (String start : BEGINNINGS) {
            if (start.length() > 1 && start.charAt(1) > '1') {
                continue;
            }
            for (int sign = 33; sign <= 126; sign++) {
                String text = start + (char) sign;
                int want = begins(text) ? text.length() : start.length();
                int got = typed(text).firstError();
                many++;
                if (got != want) {
                    Due.is("12: firstError() of " + text, want, got);
                }
            }
        }
        Due.is("12: texts enough", 1, many > 100000 ? 1 : 0);
    }

    private static void firstErrorsOfChains() {
        String signs = "twgd0123456789*@:-;;;;";
        String[] parts = {"t0*1", "w7@63*99", "g3:9-9", "g3:9-10", "d1", "d99", "t5*10", "w1@0*5", "g0:0-63", ""};
        long seed = 12345;
        for (int k = 0; k < 20000; k++) {
            StringBuilder text = new StringBuilder();
            while (text.length() < 40) {
                seed = (seed * 25214903917L + 11) & ((1L << 48) - 1);
                text.append(parts[(int) (seed >>> 20) % parts.length]).append(';');
            }
            text.setLength((int) (seed >>> 30) % 40);
            if (k % 3 == 0 && text.length() > 0) {
                seed = (seed * 25214903917L + 11) & ((1L << 48) - 1);
                text.setCharAt((int) (seed >>> 20) % text.length(), signs.charAt((int) (seed >>> 30) % signs.length()));
            }
            NumberLeases x = typed(text.toString());
            Due.is("12: firstError() of " + text, firstErrorDue(text.toString()), x.firstError());
            Due.is("12: and again", firstErrorDue(text.toString()), x.firstError());
            boolean ran = true;
            try {
                x.run();
            } catch (IllegalArgumentException e) {
                ran = false;
            }
            Due.is("13: run() of " + text, isComplete(text.toString()) ? 1 : 0, ran ? 1 : 0);
            Due.is("13: its buffer", ran ? 0 : text.length(), x.clearBuffer());
        }
    }

    private static void runs() {
        NumberLeases x = typed("t1*7;w2@0*8;w3@5*99;g1:0-63");
        x.set(3, 64);
        Due.is("13: run()", 4, x.run());
        Due.is("13: taken, given back, and given on", 2, x.number(0, 1));
        Due.is("13: for its term", 8, x.number(0, 3));
        Due.is("13: wished for", 3, x.number(5, 1));
        Due.is("13: for its term", 99, x.number(5, 3));
        Due.is("13: the buffer is cleared", 0, x.clearBuffer());
        Due.type(x, "d8;d4;t7*1");
        Due.is("13: run()", 3, x.run());
        Due.is("13: the time", 12, x.count(0));
        Due.is("13: taken then", 12, x.number(1, 2));
        NumberLeases many = typed("d1;d1;d1;d1;d1;d1;d1;d1;d1;d1;d1;d1;d1;d1;d1;d1;d1;d1;d1;d11");
        Due.is("13: 60 characters", 20, many.run());
        Due.is("13: the time", 30, many.count(0));
    }

    private static void runsUpToTheFirstThatWouldThrow() {
        NumberLeases x = typed("t0*1;w0@32*5;t0*1");
        Due.is("13: w of a number outside", 1, x.run());
        Due.is("13: the buffer is cleared", 0, x.clearBuffer());
        Due.is("13: the rest is not carried out", 1, x.count(5));
        Due.type(x, "t1*5;w1@1*1;d1");
        Due.is("13: w of an own number", 1, x.run());
        Due.type(x, "g0:0-32;d1");
        Due.is("13: g outside", 0, x.run());
        Due.type(x, "g0:32-63;d1");
        Due.is("13: g outside", 0, x.run());
        Due.type(x, "g0:1-1;d1");
        Due.is("13: g of another's number is carried out", 2, x.run());
        Due.is("13: it stays", 1, x.number(1, 1));
        x.set(1, 1);
        Due.type(x, "d1;t1*5;d1");
        Due.is("13: t at the limit", 1, x.run());
        Due.type(x, "d1;w1@9*5;d1");
        Due.is("13: w of a free number at the limit", 1, x.run());
        NumberLeases late = new NumberLeases();
        for (int k = 0; k < 101; k++) {
            late.pass(98);
        }
        Due.type(late, "d98;d4;d3");
        Due.is("13: d above the limit", 1, late.run());
        Due.is("13: the time", 9996, late.count(0));
        Due.type(late, "d3;d1");
        Due.is("13: d up to the limit", 1, late.run());
        NumberLeases full = typed("t0*5;t0*5;t0*5;t0*5;t0*5;d1");
        full.set(3, 4);
        Due.is("13: t of a full pool", 4, full.run());
    }

    private static void runRefuses() {
        for (String text : new String[] {"", "t", "t0*1;", "d1;;d1", "x", "g0:15-1", "d0", "d1;t0*100"}) {
            NumberLeases x = typed(text);
            Due.refused(x, "13: run() of " + text, Due.ARGUMENT, x::run);
            Due.is("13: the buffer stays", text.length(), x.clearBuffer());
            Due.is("13: it saves nothing", 0, x.count(12));
        }
    }

    private static void runIsOneUndo() {
        NumberLeases x = typed("t0*1;t1*2;d9;t2*3");
        long before = new NumberLeases().digest();
        Due.is("13: run()", 4, x.run());
        Due.is("13: one save", 1, x.count(12));
        Due.is("13: undo()", 0, x.undo());
        Due.is("13: all as before", before, x.digest());
        Due.type(x, "w0@63*1");
        Due.is("13: none is carried out", 0, x.run());
        Due.is("13: one save also then", 1, x.count(12));
        Due.is("13: undo()", 0, x.undo());
        Due.is("13: the buffer does not come back", 0, x.clearBuffer());
        Due.is("13: all as before", before, x.digest());
    }
}
