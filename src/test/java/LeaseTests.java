/** Promises 1 to 9, and 14: leases, wishes, time, settings and undo. */
public final class LeaseTests {
    private static final int FREE = 0;
    private static final int HELD = 1;
    private static final int IN_GRACE = 2;

    public static void main(String[] args) {
        newObject();
        takes();
        takesSpans();
        wishes();
        wishesThatAreServed();
        wishesThatAreLost();
        wishesOfAHolderWhoseNumberIsLookedAtLater();
        unwishes();
        renews();
        givesBack();
        givesBackOnToWishes();
        passes();
        passesWithoutGrace();
        passesUpToTheLimit();
        sets();
        setsThePool();
        undoes();
        undoesEachUndoableCall();
        undoesAtMostSix();
        Due.end();
    }

    private static void newObject() {
        NumberLeases x = new NumberLeases();
        int[] counts = {0, 32, 0, 0, 0, 0, 0, 0, 0, 0, 1, 32, 0};
        for (int what = 0; what <= 12; what++) {
            Due.is("1: count(" + what + ") of a new object", counts[what], x.count(what));
        }
        Due.is("1: clearBuffer() of a new object", 0, x.clearBuffer());
        Due.is("1: setting(0)", 5, x.setting(0));
        Due.is("1: setting(1)", 16, x.setting(1));
        Due.is("1: setting(2)", 0, x.setting(2));
        Due.is("1: setting(3)", 32, x.setting(3));
        NumberLeases other = new NumberLeases();
        other.take(0, 1);
        Due.is("1: objects do not share their numbers", 32, x.count(1));
    }

    private static void takes() {
        NumberLeases x = new NumberLeases();
        x.set(1, 3);
        Due.is("2: take(7, 999)", 0, x.take(7, 999));
        Due.is("2: take(0, 1)", 1, x.take(0, 1));
        Due.is("2: take(0, 4)", 2, x.take(0, 4));
        Due.is("2: end", 999, x.number(0, 3));
        Due.is("2: last moment", 1004, x.number(0, 4));
        Due.is("2: it saves", 4, x.count(12));
        x.giveBack(0, 1, 1);
        Due.is("2: the least free one", 1, x.take(0, 5));
        x.take(0, 5);
        Due.refused(x, "2: take(-1, 0)", Due.INDEX, () -> x.take(-1, 0));
        Due.refused(x, "2: take(8, 1)", Due.INDEX, () -> x.take(8, 1));
        Due.refused(x, "2: take(0, 0)", Due.ARGUMENT, () -> x.take(0, 0));
        Due.refused(x, "2: take(0, 1000)", Due.ARGUMENT, () -> x.take(0, 1000));
        Due.refused(x, "2: take at the holder's limit", Due.STATE, () -> x.take(0, 1));
        x.pass(5);
        Due.is("2: all are in grace", 3, x.holder(0, 1));
        Due.refused(x, "2: numbers in grace count for the limit", Due.STATE, () -> x.take(0, 1));
        NumberLeases full = new NumberLeases();
        full.set(3, 4);
        full.takeSpan(0, 4, 9);
        Due.refused(full, "2: take of a full pool", Due.STATE, () -> full.take(1, 1));
    }

    private static void takesSpans() {
        NumberLeases x = new NumberLeases();
        x.set(3, 10);
        x.takeSpan(0, 10, 50);
        x.giveBack(0, 1, 2);
        x.giveBack(0, 4, 6);
        x.giveBack(0, 8, 9);
        Due.is("3: the lowest side by side", 4, x.takeSpan(1, 3, 7));
        Due.is("3: each for the term", 7, x.number(6, 3));
        Due.is("3: the lowest two", 1, x.takeSpan(1, 2, 999));
        Due.is("3: given each", 5, x.holder(1, 5));
        Due.refused(x, "3: three are not side by side", Due.STATE, () -> x.takeSpan(1, 3, 1));
        Due.is("3: the last two", 8, x.takeSpan(2, 2, 1));
        Due.refused(x, "3: none is free", Due.STATE, () -> x.takeSpan(2, 1, 1));
        Due.refused(x, "3: takeSpan(8, 0, 0)", Due.INDEX, () -> x.takeSpan(8, 0, 0));
        Due.refused(x, "3: takeSpan(-1, 1, 1)", Due.INDEX, () -> x.takeSpan(-1, 1, 1));
        Due.refused(x, "3: takeSpan(0, 0, 1)", Due.ARGUMENT, () -> x.takeSpan(0, 0, 1));
        Due.refused(x, "3: takeSpan(0, 65, 1)", Due.ARGUMENT, () -> x.takeSpan(0, 65, 1));
        Due.refused(x, "3: takeSpan(0, 1, 0)", Due.ARGUMENT, () -> x.takeSpan(0, 1, 0));
        Due.refused(x, "3: takeSpan(0, 1, 1000)", Due.ARGUMENT, () -> x.takeSpan(0, 1, 1000));
        NumberLeases y = new NumberLeases();
        y.set(1, 5);
        y.take(3, 9);
        Due.refused(y, "3: more than the limit", Due.STATE, () -> y.takeSpan(3, 5, 9));
        Due.is("3: just the limit", 1, y.takeSpan(3, 4, 9));
        y.set(1, 64);
        Due.refused(y, "3: more than the pool", Due.STATE, () -> y.takeSpan(4, 64, 9));
        y.set(3, 64);
        Due.is("3: the rest of the pool", 5, y.takeSpan(4, 59, 9));
        NumberLeases z = new NumberLeases();
        z.set(1, 64);
        z.set(3, 64);
        Due.is("3: the whole pool", 0, z.takeSpan(0, 64, 1));
    }

    private static void wishes() {
        NumberLeases x = new NumberLeases();
        x.set(1, 2);
        Due.is("4: a free number at once", 0, x.wish(0, 31, 999));
        Due.is("4: who has it", 0, x.number(31, 1));
        Due.is("4: a lease was given", 1, x.count(5));
        Due.is("4: the first waits", 1, x.wish(1, 31, 3));
        Due.is("4: the second waits", 2, x.wish(2, 31, 999));
        Due.refused(x, "4: wish(8, 31, 1)", Due.INDEX, () -> x.wish(8, 31, 1));
        Due.refused(x, "4: wish(-1, 31, 1)", Due.INDEX, () -> x.wish(-1, 31, 1));
        Due.refused(x, "4: wish(0, 32, 0)", Due.INDEX, () -> x.wish(0, 32, 0));
        Due.refused(x, "4: wish(0, -1, 1)", Due.INDEX, () -> x.wish(0, -1, 1));
        Due.refused(x, "4: wish(0, 31, 0)", Due.ARGUMENT, () -> x.wish(0, 31, 0));
        Due.refused(x, "4: wish(3, 31, 1000)", Due.ARGUMENT, () -> x.wish(3, 31, 1000));
        Due.refused(x, "4: the holder has it", Due.STATE, () -> x.wish(0, 31, 1));
        Due.refused(x, "4: a wish already", Due.STATE, () -> x.wish(2, 31, 1));
        Due.is("4: the third waits", 3, x.wish(3, 31, 1));
        Due.refused(x, "4: three wait", Due.STATE, () -> x.wish(4, 31, 1));
        x.take(5, 1);
        x.take(5, 1);
        Due.refused(x, "4: free, at the limit", Due.STATE, () -> x.wish(5, 9, 1));
        Due.is("4: not free, at the limit", 1, x.wish(5, x.take(6, 9), 1));
        x.pass(1);
        Due.is("4: in grace", IN_GRACE, x.number(0, 0));
        Due.refused(x, "4: the holder has it in grace", Due.STATE, () -> x.wish(5, 0, 1));
    }

    private static void wishesThatAreServed() {
        NumberLeases x = new NumberLeases();
        x.take(0, 2);
        x.wish(1, 0, 3);
        x.wish(2, 0, 4);
        x.wish(3, 0, 5);
        Due.is("8: not before the last moment", 0, x.pass(6));
        Due.is("8: in grace", IN_GRACE, x.number(0, 0));
        Due.is("8: it becomes free, and is given on", 1, x.pass(1));
        Due.is("8: to the first one", 1, x.number(0, 1));
        Due.is("8: its begin", 7, x.number(0, 2));
        Due.is("8: its end", 10, x.number(0, 3));
        Due.is("8: its last moment", 15, x.number(0, 4));
        Due.is("8: the next one is first", 2, x.number(0, 6));
        Due.is("8: its term", 4, x.number(0, 7));
        Due.is("8: two wait", 2, x.number(0, 5));
        Due.is("8: both", 2, x.pass(8 + 9));
        Due.is("8: to the last one", 3, x.number(0, 1));
        Due.is("8: free at the end", 1, x.pass(10));
        Due.is("8: free", FREE, x.number(0, 0));
        Due.is("8: four leases", 4, x.number(0, 8));
        Due.is("8: four times free", 4, x.count(8));
    }

    private static void wishesThatAreLost() {
        NumberLeases x = new NumberLeases();
        x.take(0, 1);
        x.take(1, 99);
        x.take(2, 99);
        x.wish(1, 0, 7);
        x.wish(2, 0, 8);
        x.wish(3, 0, 9);
        x.set(1, 1);
        Due.is("8: it becomes free once", 1, x.pass(6));
        Due.is("8: to the first with room", 3, x.number(0, 1));
        Due.is("8: lost by 1", 1, x.holder(1, 6));
        Due.is("8: lost by 2", 1, x.holder(2, 6));
        Due.is("8: not lost by 3", 0, x.holder(3, 6));
        Due.is("8: lost in all", 2, x.count(9));
        Due.is("8: none waits", 0, x.count(4));
        x.wish(1, 0, 1);
        Due.is("7: all wishes lost", 1, x.giveBack(3, 0, 0));
        Due.is("7: it stays free", FREE, x.number(0, 0));
        Due.is("7: lost in all", 3, x.count(9));
    }

    /** A number that is looked at later in the same unit is still its holder's. */
    private static void wishesOfAHolderWhoseNumberIsLookedAtLater() {
        NumberLeases x = new NumberLeases();
        x.take(0, 1);
        x.take(1, 1);
        x.wish(1, 0, 5);
        x.set(1, 1);
        Due.is("8: both become free", 2, x.pass(6));
        Due.is("8: the wish is lost", 1, x.holder(1, 6));
        NumberLeases y = new NumberLeases();
        y.take(1, 1);
        y.take(0, 1);
        y.wish(1, 1, 5);
        y.set(1, 1);
        Due.is("8: both become free", 2, y.pass(6));
        Due.is("8: the wish is served, as the lower number is free already", 1, y.number(1, 1));
    }

    private static void unwishes() {
        NumberLeases x = new NumberLeases();
        x.take(0, 1);
        x.wish(1, 0, 11);
        x.wish(2, 0, 12);
        x.wish(3, 0, 13);
        Due.is("5: the middle one", 2, x.unwish(2, 0));
        Due.is("5: it saves", 5, x.count(12));
        Due.refused(x, "5: no more", Due.STATE, () -> x.unwish(2, 0));
        Due.refused(x, "5: the number's holder", Due.STATE, () -> x.unwish(0, 0));
        Due.refused(x, "5: a free number", Due.STATE, () -> x.unwish(1, 1));
        Due.refused(x, "5: unwish(8, 0)", Due.INDEX, () -> x.unwish(8, 0));
        Due.refused(x, "5: unwish(-1, 0)", Due.INDEX, () -> x.unwish(-1, 0));
        Due.refused(x, "5: unwish(1, 32)", Due.INDEX, () -> x.unwish(1, 32));
        Due.refused(x, "5: unwish(1, -1)", Due.INDEX, () -> x.unwish(1, -1));
        Due.is("5: the first one", 1, x.unwish(1, 0));
        Due.is("5: who is first", 3, x.number(0, 6));
        Due.is("5: the term", 13, x.number(0, 7));
        Due.is("5: it may wish again", 2, x.wish(1, 0, 9));
        Due.is("5: the last one", 1, x.unwish(1, 0));
        Due.is("5: and the only one", 0, x.unwish(3, 0));
        Due.is("5: not lost", 0, x.count(9));
    }

    private static void renews() {
        NumberLeases x = new NumberLeases();
        x.take(0, 3);
        x.pass(2);
        Due.is("6: held", 3, x.renew(0, 0, 10));
        Due.is("6: its begin stays", 0, x.number(0, 2));
        Due.is("6: its end", 12, x.number(0, 3));
        Due.is("6: its last moment", 17, x.number(0, 4));
        Due.is("6: a shorter term", 12, x.renew(0, 0, 1));
        x.pass(5);
        Due.is("6: in grace", IN_GRACE, x.number(0, 0));
        x.set(0, 2);
        Due.is("6: out of grace", 3, x.renew(0, 0, 999));
        Due.is("6: held", HELD, x.number(0, 0));
        Due.is("6: the setting as it is now", 7 + 999 + 2, x.number(0, 4));
        Due.is("6: renewals", 3, x.count(6));
        Due.is("6: out of grace", 1, x.count(7));
        Due.is("6: not given again", 1, x.number(0, 8));
        Due.refused(x, "6: renew(8, 0, 1)", Due.INDEX, () -> x.renew(8, 0, 1));
        Due.refused(x, "6: renew(-1, 0, 1)", Due.INDEX, () -> x.renew(-1, 0, 1));
        Due.refused(x, "6: renew(0, 32, 0)", Due.INDEX, () -> x.renew(0, 32, 0));
        Due.refused(x, "6: renew(0, -1, 1)", Due.INDEX, () -> x.renew(0, -1, 1));
        Due.refused(x, "6: renew(1, 0, 0)", Due.ARGUMENT, () -> x.renew(1, 0, 0));
        Due.refused(x, "6: renew(0, 0, 1000)", Due.ARGUMENT, () -> x.renew(0, 0, 1000));
        Due.refused(x, "6: another's", Due.STATE, () -> x.renew(1, 0, 1));
        Due.refused(x, "6: a free one", Due.STATE, () -> x.renew(0, 1, 1));
        x.wish(1, 0, 1);
        Due.is("6: wished for, but setting 2 is 0", 1006, x.renew(0, 0, 5));
        x.set(2, 1);
        Due.refused(x, "6: wished for, and setting 2 is 1", Due.STATE, () -> x.renew(0, 0, 5));
        x.unwish(1, 0);
        Due.is("6: setting 2 is 1, but none waits", 12, x.renew(0, 0, 5));
        x.take(0, 1);
        x.set(1, 1);
        Due.is("6: above the limit", 12, x.renew(0, 0, 6));
    }

    private static void givesBack() {
        NumberLeases x = new NumberLeases();
        x.takeSpan(0, 3, 9);
        x.takeSpan(1, 2, 9);
        x.takeSpan(0, 2, 1);
        x.pass(1);
        Due.is("7: one", 1, x.giveBack(0, 1, 1));
        Due.is("7: all of the holder, held or in grace", 4, x.giveBack(0, 0, 31));
        Due.is("7: those of the other stay", 2, x.holder(1, 0));
        Due.is("7: became free", 5, x.count(8));
        Due.is("7: none", 0, x.giveBack(0, 0, 31));
        Due.is("7: it saves also if it changes nothing", 6, x.count(12));
        Due.is("7: the ends of the span belong to it", 2, x.giveBack(1, 3, 4));
        Due.refused(x, "7: giveBack(8, 1, 0)", Due.INDEX, () -> x.giveBack(8, 1, 0));
        Due.refused(x, "7: giveBack(-1, 0, 0)", Due.INDEX, () -> x.giveBack(-1, 0, 0));
        Due.refused(x, "7: giveBack(0, 32, 0)", Due.INDEX, () -> x.giveBack(0, 32, 0));
        Due.refused(x, "7: giveBack(0, -1, 0)", Due.INDEX, () -> x.giveBack(0, -1, 0));
        Due.refused(x, "7: giveBack(0, 0, 32)", Due.INDEX, () -> x.giveBack(0, 0, 32));
        Due.refused(x, "7: giveBack(0, 0, -1)", Due.INDEX, () -> x.giveBack(0, 0, -1));
        Due.refused(x, "7: giveBack(0, 1, 0)", Due.ARGUMENT, () -> x.giveBack(0, 1, 0));
    }

    private static void givesBackOnToWishes() {
        NumberLeases x = new NumberLeases();
        x.takeSpan(0, 3, 50);
        x.wish(1, 0, 10);
        x.wish(1, 1, 20);
        x.wish(2, 1, 30);
        x.set(1, 1);
        x.pass(4);
        Due.is("7: three", 3, x.giveBack(0, 0, 2));
        Due.is("7: the lower number first", 1, x.number(0, 1));
        Due.is("7: begins now", 4, x.number(0, 2));
        Due.is("7: then the holder has no room", 2, x.number(1, 1));
        Due.is("7: for its term", 34, x.number(1, 3));
        Due.is("7: lost", 1, x.holder(1, 6));
        Due.is("7: free", FREE, x.number(2, 0));
        Due.is("7: all three became free", 3, x.count(8));
    }

    private static void passes() {
        NumberLeases x = new NumberLeases();
        x.take(0, 3);
        x.take(1, 4);
        Due.is("8: pass(2)", 0, x.pass(2));
        Due.is("8: the time", 2, x.count(0));
        Due.is("8: held up to the end", HELD, x.number(0, 0));
        x.pass(1);
        Due.is("8: in grace at the end", IN_GRACE, x.number(0, 0));
        Due.is("8: still held", HELD, x.number(1, 0));
        x.pass(4);
        Due.is("8: in grace up to the last moment", IN_GRACE, x.number(0, 0));
        Due.is("8: one becomes free", 1, x.pass(1));
        Due.is("8: free at the last moment", FREE, x.number(0, 0));
        Due.is("8: units held", 3, x.holder(0, 7));
        Due.is("8: units held", 4, x.holder(1, 7));
        Due.is("8: pass(99)", 1, x.pass(99));
        Due.is("8: units in grace do not count", 4, x.holder(1, 7));
        Due.refused(x, "8: pass(0)", Due.ARGUMENT, () -> x.pass(0));
        Due.refused(x, "8: pass(100)", Due.ARGUMENT, () -> x.pass(100));
        Due.refused(x, "8: pass(-1)", Due.ARGUMENT, () -> x.pass(-1));
    }

    private static void passesWithoutGrace() {
        NumberLeases x = new NumberLeases();
        x.set(0, 0);
        x.take(0, 1);
        x.take(0, 2);
        x.wish(1, 0, 1);
        x.wish(2, 0, 1);
        Due.is("8: one free at its end, and given on", 1, x.pass(1));
        Due.is("8: to the first wish", 1, x.number(0, 1));
        Due.is("8: often in one call", 3, x.pass(2));
        Due.is("8: became free", 4, x.count(8));
        Due.is("8: units of 1", 1, x.holder(1, 7));
        Due.is("8: units of 2", 1, x.holder(2, 7));
    }

    private static void passesUpToTheLimit() {
        NumberLeases x = new NumberLeases();
        for (int k = 0; k < 100; k++) {
            x.pass(99);
        }
        Due.is("8: the time", 9900, x.count(0));
        Due.is("8: up to the limit but one", 0, x.pass(98));
        Due.refused(x, "8: pass(2) at 9998", Due.STATE, () -> x.pass(2));
        Due.refused(x, "8: pass(100) at 9998", Due.ARGUMENT, () -> x.pass(100));
        Due.is("8: the limit itself", 0, x.pass(1));
        Due.refused(x, "8: pass(1) at 9999", Due.STATE, () -> x.pass(1));
        Due.is("8: the time", 9999, x.count(0));
        x.take(0, 999);
        Due.is("2: a lease may go on above the limit", 10998, x.number(0, 3));
        Due.is("21: the limit does not matter", 0, x.freeIn(31));
        x.renew(0, 0, 10);
        Due.is("20: the limit does not matter", 0, x.whoAfter(0, 14));
        Due.is("20: the limit does not matter", -1, x.whoAfter(0, 15));
        Due.is("21: the limit does not matter", 15, x.freeIn(32));
        Due.is("22: the limit does not matter", 15, x.wishedIn(1, 0));
    }

    private static void sets() {
        NumberLeases x = new NumberLeases();
        int[] least = {0, 1, 0, 4};
        int[] most = {50, 64, 1, 64};
        int[] first = {5, 16, 0, 32};
        for (int k = 0; k < 4; k++) {
            int setting = k;
            Due.is("9: set(" + k + ", least)", first[k], x.set(k, least[k]));
            Due.is("9: set(" + k + ", most)", least[k], x.set(k, most[k]));
            Due.is("9: set(" + k + ", the same)", most[k], x.set(k, most[k]));
            Due.refused(x, "9: below", Due.ARGUMENT, () -> x.set(setting, least[setting] - 1));
            Due.refused(x, "9: above", Due.ARGUMENT, () -> x.set(setting, most[setting] + 1));
        }
        Due.is("9: it saves", 6, x.count(12));
        Due.refused(x, "9: set(-1, 0)", Due.INDEX, () -> x.set(-1, 0));
        Due.refused(x, "9: set(4, 99)", Due.INDEX, () -> x.set(4, 99));
        x.take(0, 3);
        x.set(0, 0);
        Due.is("9: a last moment stays", 53, x.number(0, 4));
        x.take(0, 3);
        x.set(1, 1);
        Due.is("9: a lower limit takes none away", 2, x.holder(0, 0));
    }

    private static void setsThePool() {
        NumberLeases x = new NumberLeases();
        x.wish(0, 9, 1);
        x.pass(1);
        Due.is("9: in grace", IN_GRACE, x.number(9, 0));
        Due.refused(x, "9: too small for what is in grace", Due.STATE, () -> x.set(3, 9));
        Due.refused(x, "9: out of range comes first", Due.ARGUMENT, () -> x.set(3, 3));
        Due.is("9: just fits", 32, x.set(3, 10));
        Due.is("9: free ones", 9, x.count(1));
        Due.refused(x, "9: it is no number any more", Due.INDEX, () -> x.number(10, 0));
        x.giveBack(0, 9, 9);
        Due.is("9: smaller", 10, x.set(3, 4));
        Due.is("9: larger", 4, x.set(3, 64));
        Due.is("9: all free", 64, x.count(1));
        Due.is("15: given also ahead of that", 1, x.number(9, 8));
        Due.is("15: free", FREE, x.number(63, 0));
    }

    private static void undoes() {
        NumberLeases x = new NumberLeases();
        Due.refused(x, "14: nothing to undo", Due.STATE, x::undo);
        long fresh = x.digest();
        x.take(0, 5);
        Due.type(x, "d");
        x.pass(3);
        Due.is("14: undo()", 1, x.undo());
        Due.is("14: the time", 0, x.count(0));
        Due.is("14: what is counted", 0, x.holder(0, 7));
        Due.is("14: undo()", 0, x.undo());
        Due.is("14: the buffer stays", 1, x.clearBuffer());
        Due.is("14: all as it was", fresh, x.digest());
        Due.refused(x, "14: nothing more to undo", Due.STATE, x::undo);
    }

    private static void undoesEachUndoableCall() {
        NumberLeases x = new NumberLeases();
        x.takeSpan(0, 3, 5);
        x.wish(1, 0, 2);
        long[] before = new long[8];
        for (int k = 0; k < 8; k++) {
            before[k] = withoutSaves(x);
            change(x, k);
            Due.is("14: a save by call " + k, 3, x.count(12));
            Due.is("14: undo of call " + k, 2, x.undo());
            Due.is("14: all as ahead of call " + k, before[k], withoutSaves(x));
        }
    }

    private static void change(NumberLeases x, int call) {
        switch (call) {
            case 0 -> x.take(3, 7);
            case 1 -> x.takeSpan(3, 4, 7);
            case 2 -> x.wish(3, 0, 7);
            case 3 -> x.unwish(1, 0);
            case 4 -> x.renew(0, 0, 7);
            case 5 -> x.giveBack(0, 0, 2);
            case 6 -> x.pass(40);
            default -> x.set(3, 7);
        }
    }

    /** The digest, which has the saved states counted in it, is the same where their count is. */
    private static long withoutSaves(NumberLeases x) {
        Due.is("14: saves", 2, x.count(12));
        return x.digest();
    }

    private static void undoesAtMostSix() {
        NumberLeases x = new NumberLeases();
        for (int k = 0; k < 9; k++) {
            x.pass(k + 1);
            Due.is("14: saved states", Math.min(k + 1, 6), x.count(12));
        }
        int[] times = {36, 28, 21, 15, 10, 6};
        for (int k = 0; k < 6; k++) {
            Due.is("14: undo()", 5 - k, x.undo());
            Due.is("14: the time", times[k], x.count(0));
        }
        Due.refused(x, "14: the oldest ones are dropped", Due.STATE, x::undo);
        x.pass(1);
        Due.is("14: a save behind undos", 1, x.count(12));
        Due.is("14: undo()", 0, x.undo());
        Due.is("14: the time", 6, x.count(0));
    }
}
