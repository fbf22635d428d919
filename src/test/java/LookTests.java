/** Promises 15 to 26: the looks, what would be, and the digest. */
public final class LookTests {
    public static void main(String[] args) {
        looksAtNumbers();
        looksAtHolders();
        looksAtSpans();
        counts();
        looksAtSettings();
        tellsWhoAfter();
        tellsFreeIn();
        tellsWishedIn();
        tellsWishedInWithoutRoom();
        tellsFullness();
        tellsScatter();
        tellsMeanHeld();
        bitsOfEachQuotient();
        digests();
        looksChangeNothing();
        Due.end();
    }

    /** Five numbers: 0 in grace with two wishes, 1 held, 2 free, 3 and 4 held; the time is 4. */
    private static NumberLeases some() {
        NumberLeases x = new NumberLeases();
        x.take(6, 2);
        x.take(6, 9);
        x.take(5, 1);
        x.takeSpan(6, 2, 6);
        x.giveBack(5, 2, 2);
        x.wish(3, 0, 70);
        x.wish(4, 0, 71);
        x.pass(3);
        x.renew(6, 3, 3);
        x.pass(1);
        return x;
    }

    private static void looksAtNumbers() {
        NumberLeases x = some();
        int[][] due = {
            {2, 6, 0, 2, 7, 2, 3, 70, 1},
            {1, 6, 0, 9, 14, 0, -1, -1, 1},
            {0, -1, -1, -1, -1, 0, -1, -1, 1},
            {1, 6, 0, 6, 11, 0, -1, -1, 1},
            {1, 6, 0, 6, 11, 0, -1, -1, 1},
            {0, -1, -1, -1, -1, 0, -1, -1, 0},
        };
        for (int n = 0; n < due.length; n++) {
            for (int what = 0; what <= 8; what++) {
                Due.is("15: number(" + n + ", " + what + ")", due[n][what], x.number(n, what));
            }
        }
        Due.is("15: number(31, 0)", 0, x.number(31, 0));
        Due.refused(x, "15: number(32, 9)", Due.INDEX, () -> x.number(32, 9));
        Due.refused(x, "15: number(-1, 0)", Due.INDEX, () -> x.number(-1, 0));
        Due.refused(x, "15: number(0, 9)", Due.ARGUMENT, () -> x.number(0, 9));
        Due.refused(x, "15: number(0, -1)", Due.ARGUMENT, () -> x.number(0, -1));
        x.set(3, 64);
        Due.is("15: number(63, 0)", 0, x.number(63, 0));
        Due.refused(x, "15: number(64, 0)", Due.INDEX, () -> x.number(64, 0));
    }

    private static void looksAtHolders() {
        NumberLeases x = some();
        x.set(1, 1);
        x.pass(3);
        int[][] due = {
            {0, 0, 0, -1, -1, 0, 0, 0},
            {0, 0, 0, -1, -1, 0, 0, 0},
            {0, 0, 0, -1, -1, 0, 0, 0},
            {1, 0, 0, 0, 77, 1, 0, 0},
            {0, 0, 1, -1, -1, 0, 0, 0},
            {0, 0, 0, -1, -1, 1, 0, 0},
            {1, 2, 0, 1, 9, 4, 0, 2 + 7 + 6 + 6},
            {0, 0, 0, -1, -1, 0, 0, 0},
        };
        for (int holder = 0; holder < 8; holder++) {
            for (int what = 0; what <= 7; what++) {
                Due.is("16: holder(" + holder + ", " + what + ")", due[holder][what], x.holder(holder, what));
            }
        }
        Due.refused(x, "16: holder(8, 8)", Due.INDEX, () -> x.holder(8, 8));
        Due.refused(x, "16: holder(-1, 0)", Due.INDEX, () -> x.holder(-1, 0));
        Due.refused(x, "16: holder(0, 8)", Due.ARGUMENT, () -> x.holder(0, 8));
        Due.refused(x, "16: holder(0, -1)", Due.ARGUMENT, () -> x.holder(0, -1));
        x.pass(2);
        Due.is("16: the least number may be in grace", 1, x.holder(6, 3));
        Due.is("16: the least end only of those that are held", -1, x.holder(6, 4));
        x.set(1, 9);
        x.takeSpan(6, 2, 30);
        x.renew(6, 3, 20);
        Due.is("16: the least end is not that of the least number", 29, x.holder(6, 4));
        x.wish(3, 1, 1);
        x.wish(4, 1, 1);
        Due.is("16: all wishes that wait", 2, x.holder(4, 2));
    }

    private static void looksAtSpans() {
        NumberLeases x = new NumberLeases();
        Due.is("17: span(0, 0) of a new object", 0, x.span(0, 0));
        Due.is("17: span(0, 1) of a new object", 32, x.span(0, 1));
        Due.is("17: span(1, 1) of a new object", -1, x.span(1, 1));
        x.takeSpan(0, 10, 9);
        x.giveBack(0, 0, 0);
        x.giveBack(0, 3, 5);
        int[][] due = {{0, 1}, {3, 3}, {10, 22}, {-1, -1}};
        for (int k = 0; k < due.length; k++) {
            Due.is("17: span(" + k + ", 0)", due[k][0], x.span(k, 0));
            Due.is("17: span(" + k + ", 1)", due[k][1], x.span(k, 1));
        }
        Due.is("17: a large place", -1, x.span(Integer.MAX_VALUE, 0));
        Due.refused(x, "17: span(-1, 0)", Due.ARGUMENT, () -> x.span(-1, 0));
        Due.refused(x, "17: span(0, 2)", Due.ARGUMENT, () -> x.span(0, 2));
        Due.refused(x, "17: span(0, -1)", Due.ARGUMENT, () -> x.span(0, -1));
        x.set(3, 10);
        Due.is("17: only numbers of the pool", -1, x.span(2, 0));
        x.pass(10);
        Due.is("17: numbers in grace are not free", 3, x.span(1, 1));
    }

    private static void counts() {
        NumberLeases x = some();
        int[] due = {4, 28, 3, 1, 2, 5, 1, 0, 1, 0, 2, 27, 6};
        for (int what = 0; what <= 12; what++) {
            Due.is("18: count(" + what + ")", due[what], x.count(what));
        }
        x.renew(6, 0, 1);
        Due.is("18: renewals", 2, x.count(6));
        Due.is("18: out of grace", 1, x.count(7));
        x.wish(6, 5, 1);
        Due.is("18: a wish given at once does not wait", 2, x.count(4));
        x.take(3, 40);
        x.set(1, 1);
        x.giveBack(6, 0, 0);
        Due.is("18: lost", 1, x.count(9));
        Due.is("18: became free", 2, x.count(8));
        Due.is("18: leases", 8, x.count(5));
        NumberLeases full = new NumberLeases();
        full.set(3, 4);
        full.takeSpan(0, 4, 1);
        Due.is("18: no spans", 0, full.count(10));
        Due.is("18: no longest one", 0, full.count(11));
        Due.refused(x, "18: count(13)", Due.ARGUMENT, () -> x.count(13));
        Due.refused(x, "18: count(-1)", Due.ARGUMENT, () -> x.count(-1));
    }

    private static void looksAtSettings() {
        NumberLeases x = new NumberLeases();
        int[] values = {17, 33, 1, 44};
        for (int k = 0; k < 4; k++) {
            x.set(k, values[k]);
        }
        for (int k = 0; k < 4; k++) {
            Due.is("19: setting(" + k + ")", values[k], x.setting(k));
        }
        Due.refused(x, "19: setting(4)", Due.INDEX, () -> x.setting(4));
        Due.refused(x, "19: setting(-1)", Due.INDEX, () -> x.setting(-1));
    }

    private static void tellsWhoAfter() {
        NumberLeases x = some();
        Due.is("20: whoAfter(0, 0)", 6, x.whoAfter(0, 0));
        Due.is("20: in grace", 6, x.whoAfter(0, 2));
        Due.is("20: the first wish", 3, x.whoAfter(0, 3));
        Due.is("20: up to the last moment", 3, x.whoAfter(0, 77));
        Due.is("20: the second wish", 4, x.whoAfter(0, 78));
        Due.is("20: up to the last moment", 4, x.whoAfter(0, 78 + 75));
        Due.is("20: free then", -1, x.whoAfter(0, 78 + 76));
        Due.is("20: free then", -1, x.whoAfter(0, 500));
        Due.is("20: free now", -1, x.whoAfter(2, 0));
        Due.refused(x, "20: whoAfter(32, -1)", Due.INDEX, () -> x.whoAfter(32, -1));
        Due.refused(x, "20: whoAfter(-1, 0)", Due.INDEX, () -> x.whoAfter(-1, 0));
        Due.refused(x, "20: whoAfter(0, -1)", Due.ARGUMENT, () -> x.whoAfter(0, -1));
        Due.refused(x, "20: whoAfter(0, 501)", Due.ARGUMENT, () -> x.whoAfter(0, 501));
        NumberLeases y = new NumberLeases();
        y.take(0, 495);
        Due.is("20: up to 500", 0, y.whoAfter(0, 499));
        Due.is("20: at 500", -1, y.whoAfter(0, 500));
    }

    private static void tellsFreeIn() {
        NumberLeases x = new NumberLeases();
        x.set(3, 4);
        x.take(0, 5);
        x.take(1, 10);
        x.takeSpan(2, 2, 495);
        x.wish(3, 0, 1);
        Due.is("21: one", 15, x.freeIn(1));
        Due.is("21: two, behind the wish", 16, x.freeIn(2));
        Due.is("21: three, both at 500", 500, x.freeIn(3));
        Due.is("21: all", 500, x.freeIn(4));
        Due.is("21: more than the pool", -1, x.freeIn(5));
        Due.is("21: more than any pool", -1, x.freeIn(64));
        Due.refused(x, "21: freeIn(0)", Due.ARGUMENT, () -> x.freeIn(0));
        Due.refused(x, "21: freeIn(65)", Due.ARGUMENT, () -> x.freeIn(65));
        x.renew(2, 2, 496);
        Due.is("21: three", 500, x.freeIn(3));
        Due.is("21: not within 500", -1, x.freeIn(4));
        Due.is("21: now", 0, new NumberLeases().freeIn(32));
        Due.is("21: not now", -1, new NumberLeases().freeIn(33));
    }

    private static void tellsWishedIn() {
        NumberLeases x = some();
        Due.is("22: free", 0, x.wishedIn(0, 2));
        Due.is("22: has it", 0, x.wishedIn(6, 1));
        Due.is("22: has it in grace", 0, x.wishedIn(6, 0));
        Due.is("22: behind two wishes", 3 + 75 + 76, x.wishedIn(0, 0));
        Due.is("22: its own wish waits", -1, x.wishedIn(3, 0));
        Due.is("22: behind none", 10, x.wishedIn(0, 1));
        x.wish(0, 0, 5);
        Due.is("22: three wait", -1, x.wishedIn(1, 0));
        Due.refused(x, "22: wishedIn(8, 0)", Due.INDEX, () -> x.wishedIn(8, 0));
        Due.refused(x, "22: wishedIn(-1, 0)", Due.INDEX, () -> x.wishedIn(-1, 0));
        Due.refused(x, "22: wishedIn(0, 32)", Due.INDEX, () -> x.wishedIn(0, 32));
        Due.refused(x, "22: wishedIn(0, -1)", Due.INDEX, () -> x.wishedIn(0, -1));
        NumberLeases y = new NumberLeases();
        y.take(0, 495);
        Due.is("22: at 500", 500, y.wishedIn(1, 0));
        y.renew(0, 0, 496);
        Due.is("22: not within 500", -1, y.wishedIn(1, 0));
    }

    private static void tellsWishedInWithoutRoom() {
        NumberLeases x = new NumberLeases();
        x.set(1, 1);
        x.take(0, 10);
        x.take(1, 9);
        x.take(2, 20);
        Due.is("22: free, at the limit", -1, x.wishedIn(0, 9));
        Due.is("22: it has room then", 15, x.wishedIn(1, 0));
        Due.is("22: it has no room then", -1, x.wishedIn(2, 0));
        Due.is("22: it has no room then", -1, x.wishedIn(0, 1));
        x.wish(1, 0, 5);
        Due.is("22: behind a wish that is served", 25, x.wishedIn(3, 0));
        Due.is("22: the wishes are as before", 1, x.number(0, 5));
        x.renew(1, 1, 40);
        Due.is("22: behind a wish that is lost", 15, x.wishedIn(3, 0));
        NumberLeases y = new NumberLeases();
        y.set(0, 0);
        y.set(1, 1);
        y.take(0, 3);
        y.take(1, 3);
        Due.is("22: its number is looked at later", -1, y.wishedIn(1, 0));
        Due.is("22: its number is looked at before", 3, y.wishedIn(0, 1));
    }

    private static void tellsFullness() {
        NumberLeases x = new NumberLeases();
        Due.is("23: empty", 0, x.fullness());
        x.set(3, 7);
        x.takeSpan(0, 3, 2);
        Due.is("23: 3 / 7", Float.floatToIntBits(3.0f / 7.0f), x.fullness());
        x.pass(2);
        Due.is("23: in grace", Float.floatToIntBits(3.0f / 7.0f), x.fullness());
        x.takeSpan(0, 4, 2);
        Due.is("23: full", Float.floatToIntBits(1.0f), x.fullness());
    }

    private static void tellsScatter() {
        NumberLeases x = new NumberLeases();
        Due.is("24: one span", 0, x.scatter());
        x.takeSpan(0, 10, 2);
        x.giveBack(0, 0, 2);
        x.giveBack(0, 5, 8);
        Due.is("24: 22 of 29", Float.floatToIntBits(1.0f - 22.0f / 29.0f), x.scatter());
        x.set(3, 10);
        Due.is("24: 4 of 7", Float.floatToIntBits(1.0f - 4.0f / 7.0f), x.scatter());
        x.takeSpan(1, 4, 1);
        x.takeSpan(1, 3, 1);
        Due.is("24: none is free", 0, x.scatter());
    }

    private static void tellsMeanHeld() {
        NumberLeases x = new NumberLeases();
        Due.is("25: no leases", 0, Double.doubleToLongBits(x.meanHeld()));
        x.take(0, 3);
        Due.is("25: no units", 0, Double.doubleToLongBits(x.meanHeld()));
        x.take(1, 7);
        x.take(2, 9);
        x.pass(20);
        Due.is("25: 19 / 3", Double.doubleToLongBits(19.0 / 3.0), Double.doubleToLongBits(x.meanHeld()));
    }

    /** fullness and scatter for many pools, and meanHeld in the digest, against the machine's own bits. */
    private static void bitsOfEachQuotient() {
        for (int size = 4; size <= 64; size++) {
            NumberLeases x = new NumberLeases();
            x.set(1, 64);
            x.set(3, size);
            for (int many = 1; many <= size; many++) {
                x.take(0, 1 + many);
                Due.is("23: " + many + " / " + size, Float.floatToIntBits((float) many / (float) size), x.fullness());
            }
            for (int n = 0; n < size; n += 2) {
                x.giveBack(0, n, n);
                float due = 1.0f - 1.0f / (float) (n / 2 + 1);
                Due.is("24: 1 of " + (n / 2 + 1), Float.floatToIntBits(due), x.scatter());
            }
            x.pass(size);
            x.pass(size % 7 + 1);
            Due.is("26: the digest of size " + size, digestOf(x, ""), x.digest());
        }
    }

    private static long digestOf(NumberLeases x, String buffer) {
        long hash = 2579;
        for (int what = 0; what <= 12; what++) {
            hash = 31 * hash + x.count(what);
        }
        for (int k = 0; k <= 3; k++) {
            hash = 31 * hash + x.setting(k);
        }
        for (int n = 0; n < x.setting(3); n++) {
            for (int what = 0; what <= 8; what++) {
                hash = 31 * hash + x.number(n, what);
            }
        }
        for (int holder = 0; holder < 8; holder++) {
            for (int what = 0; what <= 7; what++) {
                hash = 31 * hash + x.holder(holder, what);
            }
            hash = 31 * hash + x.wishedIn(holder, 0);
        }
        for (int k = 0; k < x.count(10); k++) {
            hash = 31 * hash + x.span(k, 0);
            hash = 31 * hash + x.span(k, 1);
        }
        hash = 31 * hash + x.whoAfter(0, 20);
        hash = 31 * hash + x.freeIn(4);
        hash = 31 * hash + x.fullness();
        hash = 31 * hash + x.scatter();
        hash = 31 * hash + Double.doubleToLongBits(x.meanHeld());
        hash = 31 * hash + buffer.length();
        for (int k = 0; k < buffer.length(); k++) {
            hash = 31 * hash + buffer.charAt(k);
        }
        return hash;
    }

    private static void digests() {
        NumberLeases x = new NumberLeases();
        Due.is("26: a new object", digestOf(x, ""), x.digest());
        x = some();
        Due.is("26: some leases", digestOf(x, ""), x.digest());
        Due.type(x, "t0*1;~!");
        Due.is("26: with a buffer", digestOf(x, "t0*1;~!"), x.digest());
        x.set(3, 5);
        x.take(7, 9);
        Due.is("26: no spans", digestOf(x, "t0*1;~!"), x.digest());
        x.clearBuffer();
        Due.is("26: the buffer is cleared", digestOf(x, ""), x.digest());
    }

    private static void looksChangeNothing() {
        NumberLeases x = some();
        Due.type(x, "w1@2*3;");
        long before = x.digest();
        x.whoAfter(0, 500);
        x.freeIn(32);
        x.wishedIn(0, 0);
        x.firstError();
        x.fullness();
        x.scatter();
        x.meanHeld();
        Due.is("26: looks change nothing", before, x.digest());
        Due.is("18: looks save nothing", 6, x.count(12));
        Due.is("22: the wish is not made", 2, x.count(4));
    }
}
