/** The sentences of promises 15 to 19, each with calls that would answer otherwise if it was broken. */
final class LookSentences {
    private static final int FREE = 0;
    private static final int HELD = 1;
    private static final int IN_GRACE = 2;

    private LookSentences() {
    }

    static void lookAtAll() {
        number();
        numberWhat();
        numberNone();
        holder();
        holderWhat();
        holderCounts();
        span();
        count();
        countLeases();
        countSpans();
        setting();
    }

    private static void number() {
        Story two = Story.after("pass 2, take 3 9, take 4 1, wish 5 1 7");
        Story.on("15", "Returns a property of a number.");
        two.is(HELD, "number 0 0").is(3, "number 0 1").is(4, "number 1 1").is(5, "number 1 6").is(FREE, "number 2 0");

        Story.on("15", "- `number`: a number of the pool");
        for (int size : new int[] {4, 32, 64}) {
            Story pool = Story.after("set 3 " + size + ", wish 1 " + (size - 1) + " 9, wish 2 0 8");
            pool.is(1, "number " + (size - 1) + " 1").is(2, "number 0 1");
            pool.refuses(Due.INDEX, "number -1 0", "number " + size + " 0");
        }

        Story.on("15", "Returns the property;");
        int[] held = {1, 3, 2, 11, 16, 0, -1, -1, 1};
        int[] wished = {2, 4, 2, 3, 8, 1, 5, 7, 1};
        int[] free = {0, -1, -1, -1, -1, 0, -1, -1, 0};
        for (int what = 0; what <= 8; what++) {
            two.then("pass 1").is(held[what], "number 0 " + what).is(wished[what], "number 1 " + what)
                .is(free[what], "number 2 " + what).is(free[what], "number 31 " + what);
        }

        Story.on("15", "Throws `IndexOutOfBoundsException` if there is no such number");
        for (int what : new int[] {0, 1, 5, 6, 8, 9, -1}) {
            two.refusesEach(Due.INDEX, "number # " + what, -1, 32, 63, 64, Story.LEAST_INT, Story.MOST_INT);
        }
        two.then("set 3 4").refusesEach(Due.INDEX, "number # 0", -1, 4, 31);
        two.then("set 3 64").refusesEach(Due.INDEX, "number # 0", -1, 64);

        Story.on("15", "Throws `IllegalArgumentException` if what is not 0 to 8");
        for (int n : new int[] {0, 1, 2, 31}) {
            two.refusesEach(Due.ARGUMENT, "number " + n + " #", -1, 9, Story.LEAST_INT, Story.MOST_INT);
        }
    }

    private static void numberWhat() {
        Story.on("15", "- `what`: 0: 0 if it is free, 1 if it is held, 2 if it is in grace;");
        Story lease = Story.after("pass 1, take 3 2").is(HELD, "number 0 0").is(FREE, "number 1 0");
        int[] states = {HELD, IN_GRACE, IN_GRACE, IN_GRACE, IN_GRACE, IN_GRACE, FREE, FREE};
        for (int k = 0; k < states.length; k++) {
            lease.then("pass " + (k + 1)).is(states[k], "number 0 0");
        }

        Story.on("15", "1: who has it;");
        Story.after("wish 0 5 1, wish 7 6 9, wish 3 6 1").is(0, "number 5 1").is(7, "number 6 1").then("pass 1")
            .is(0, "number 5 1");

        Story.on("15", "2: the begin of its lease;");
        Story.after("take 0 9").is(0, "number 0 2").then("pass 7, take 0 9").is(0, "number 0 2").is(7, "number 1 2")
            .then("renew 0 0 9").is(0, "number 0 2").then("pass 12").is(7, "number 1 2");

        Story.on("15", "3: the end;");
        Story.after("pass 7, take 0 9").is(16, "number 0 3").then("pass 9").is(16, "number 0 3").then("renew 0 0 2")
            .is(18, "number 0 3");

        Story.on("15", "4: the last moment;");
        Story.after("pass 7, take 0 9").is(21, "number 0 4").then("set 0 9, pass 9").is(21, "number 0 4").then("renew 0 0 2")
            .is(27, "number 0 4");

        Story.on("15", "5: wishes that wait for it;");
        Story.after("takeSpan 0 2 9").is(0, "number 0 5").then("wish 1 0 1").is(1, "number 0 5").then("wish 2 0 1")
            .is(2, "number 0 5")
            .then("wish 3 0 1").is(3, "number 0 5").is(0, "number 1 5").then("unwish 2 0").is(2, "number 0 5")
            .then("giveBack 0 0 0").is(1, "number 0 5").then("pass 99").is(0, "number 0 5");

        Story wishes = Story.after("take 1 9, wish 0 0 12, wish 7 0 999, wish 3 0 1");
        Story.on("15", "6: whose wish is the first one;");
        wishes.is(0, "number 0 6").then("giveBack 1 0 0").is(7, "number 0 6").then("unwish 7 0").is(3, "number 0 6");

        Story.on("15", "7: the term of that;");
        wishes.is(12, "number 0 7").then("giveBack 1 0 0").is(999, "number 0 7").then("unwish 7 0").is(1, "number 0 7");

        Story.on("15", "8: how often it was given so far (renewals do not count;");
        Story given = Story.after("takeSpan 0 2 9").is(1, "number 0 8").is(0, "number 2 8").then("renew 0 0 9, wish 1 0 9");
        given.is(1, "number 0 8").then("giveBack 0 0 0").is(2, "number 0 8").is(1, "number 1 8").then("pass 10, renew 1 0 4")
            .is(2, "number 0 8").then("giveBack 1 0 0").is(2, "number 0 8").then("take 1 9").is(3, "number 0 8");
        Story.after("wish 0 9 1, giveBack 0 9 9, wish 0 9 1").is(2, "number 9 8");

        Story.on("15", "also ahead of a time in which it did not belong to the pool)");
        Story gone = Story.after("wish 0 31 9, giveBack 0 31 31, wish 0 31 9, giveBack 0 31 31, set 3 4");
        gone.refuses(Due.INDEX, "number 31 8").then("set 3 32").is(2, "number 31 8").then("wish 0 31 1").is(3, "number 31 8");
    }

    private static void numberNone() {
        Story.on("15", "NONE for 1 to 4 if it is free, and for 6 and 7 without a wish.");
        Story freed = Story.after("takeSpan 3 2 9, wish 4 0 9, giveBack 3 0 1, giveBack 4 0 0");
        for (int what = 1; what <= 4; what++) {
            Story.fresh().is(-1, "number 0 " + what);
            freed.is(-1, "number 0 " + what).is(-1, "number 1 " + what);
            Story.after("take 3 1, pass 6").is(-1, "number 0 " + what);
        }
        for (int what = 6; what <= 7; what++) {
            Story.fresh().is(-1, "number 0 " + what);
            freed.is(-1, "number 0 " + what);
            Story.after("take 3 9").is(-1, "number 0 " + what).then("wish 4 0 9, unwish 4 0").is(-1, "number 0 " + what)
                .then("wish 4 0 9, giveBack 3 0 0").is(-1, "number 0 " + what);
        }
        Story.after("take 3 9, wish 4 0 8").is(4, "number 0 6").is(8, "number 0 7");
        freed.is(0, "number 0 0").is(0, "number 0 5").is(2, "number 0 8");
    }

    private static void holder() {
        Story some = Story.after("takeSpan 0 3 9, takeSpan 7 2 1, wish 7 0 5, wish 7 1 5, pass 2");
        Story.on("16", "Returns a property of a holder.");
        some.is(3, "holder 0 0").is(0, "holder 1 0").is(0, "holder 7 0");

        Story.on("16", "- `holder`: 0 to 7");
        some.is(0, "holder 0 3").is(3, "holder 7 3").refuses(Due.INDEX, "holder -1 3", "holder 8 3");

        Story.on("16", "Returns the property.");
        int[] first = {3, 0, 0, 0, 9, 3, 0, 6};
        int[] last = {0, 2, 2, 3, -1, 2, 0, 2};
        int[] none = {0, 0, 0, -1, -1, 0, 0, 0};
        for (int what = 0; what <= 7; what++) {
            some.is(first[what], "holder 0 " + what).is(last[what], "holder 7 " + what).is(none[what], "holder 4 " + what);
        }

        Story ends = Story.after("set 3 64, wish 2 63 1, wish 2 0 3, take 3 9, wish 4 63 9, wish 4 1 9, wish 5 63 4");
        int[] both = {2, 0, 0, 0, 1, 2, 0, 0};
        int[] later = {1, 1, 0, 0, 3, 2, 0, 3};
        int[] latest = {0, 1, 0, 0, -1, 2, 0, 4};
        for (int what = 0; what <= 7; what++) {
            ends.is(both[what], "holder 2 " + what).then("pass 2").is(later[what], "holder 2 " + what);
            ends.then("pass 6").is(latest[what], "holder 2 " + what);
        }
        ends.is(2, "holder 4 2").is(1, "holder 5 2").then("pass 6").is(1, "holder 4 2").is(63, "holder 4 3").is(15, "holder 4 4");
        ends.then("set 1 1").refuses(Due.STATE, "take 2 9").then("giveBack 2 0 0").refuses(Due.STATE, "take 2 9");

        Story.on("16", "Throws `IndexOutOfBoundsException` if there is no such holder");
        for (int what : new int[] {0, 2, 3, 5, 7, 8, -1}) {
            some.refusesEach(Due.INDEX, "holder # " + what, -1, 8, 9, Story.LEAST_INT, Story.MOST_INT);
        }

        Story.on("16", "Throws `IllegalArgumentException` if what is not 0 to 7");
        for (int holder : new int[] {0, 4, 7}) {
            some.refusesEach(Due.ARGUMENT, "holder " + holder + " #", -1, 8, Story.LEAST_INT, Story.MOST_INT);
        }
    }

    private static void holderWhat() {
        Story.on("16", "- `what`: 0: numbers that are held;");
        Story some = Story.after("takeSpan 2 3 4, take 3 9, wish 2 31 6");
        some.is(4, "holder 2 0").is(1, "holder 3 0").then("pass 3").is(4, "holder 2 0").then("pass 1").is(1, "holder 2 0")
            .then("pass 2").is(0, "holder 2 0").then("renew 2 1 4").is(1, "holder 2 0").then("giveBack 2 1 1")
            .is(0, "holder 2 0");

        Story.on("16", "1: numbers in grace;");
        some.then("pass 3").is(0, "holder 2 1").then("pass 1").is(3, "holder 2 1").is(0, "holder 3 1").then("pass 2")
            .is(4, "holder 2 1")
            .then("pass 2").is(4, "holder 2 1").then("pass 1").is(1, "holder 2 1").then("pass 2").is(0, "holder 2 1");

        Story.on("16", "2: wishes that wait;");
        Story waiting = Story.after("takeSpan 0 3 9, wish 1 0 5, wish 2 0 5, wish 1 1 5, wish 1 2 5, wish 1 9 5")
            .is(0, "holder 0 2");
        waiting.is(3, "holder 1 2").is(1, "holder 2 2").then("unwish 1 1").is(2, "holder 1 2").then("giveBack 0 0 0")
            .is(1, "holder 1 2").is(1, "holder 2 2").then("set 1 1, giveBack 0 2 2").is(0, "holder 1 2");

        Story.on("16", "3: the least number that the holder has, NONE without one;");
        Story numbers = Story.after("takeSpan 1 2 9, takeSpan 2 1 1, takeSpan 2 2 9").is(-1, "holder 0 3").is(0, "holder 1 3");
        numbers.is(2, "holder 2 3").then("pass 1").is(2, "holder 2 3").then("pass 5").is(3, "holder 2 3").then("giveBack 2 3 4")
            .is(-1, "holder 2 3").then("wish 2 31 1").is(31, "holder 2 3").then("wish 2 0 9").is(31, "holder 2 3");

        Story.on("16", "4: the least end, of those that are held, NONE without one;");
        Story ends = Story.after("take 2 9, take 2 4, take 2 12, take 1 1").is(-1, "holder 0 4").is(1, "holder 1 4")
            .is(4, "holder 2 4");
        ends.then("pass 4").is(9, "holder 2 4").is(-1, "holder 1 4").then("pass 5").is(12, "holder 2 4").then("pass 3")
            .is(-1, "holder 2 4");
        ends.then("pass 4, renew 2 1 2").is(6, "holder 2 4").then("giveBack 2 1 1").is(9, "holder 2 4");
        ends.then("renew 2 1 999").is(9, "holder 2 4");
    }

    private static void holderCounts() {
        Story.on("16", "5: leases that were given to the holder so far;");
        Story given = Story.after("take 1 9").is(1, "holder 1 5").then("takeSpan 1 3 9").is(4, "holder 1 5").then("wish 1 9 9")
            .is(5, "holder 1 5").then("renew 1 9 8").is(5, "holder 1 5").then("giveBack 1 0 31").is(5, "holder 1 5");
        given.then("take 2 9, wish 1 0 9").is(5, "holder 1 5").then("giveBack 2 0 0").is(6, "holder 1 5").is(1, "holder 2 5");

        Story.on("16", "6: wishes that were lost so far;");
        Story lost = Story.after("takeSpan 0 3 9, wish 1 0 5, wish 1 1 5, wish 1 2 5, wish 2 1 5, set 1 1, giveBack 0 0 0");
        lost.is(0, "holder 1 6").then("giveBack 0 1 1").is(1, "holder 1 6").is(0, "holder 2 6").then("pass 99")
            .is(1, "holder 1 6");
        lost.then("giveBack 0 1 2").is(2, "holder 1 6").is(0, "holder 0 6");
        lost.then("unwish 1 1").is(0, "holder 1 6").then("unwish 1 2").is(0, "holder 1 6");

        Story.on("16", "7: units of time that passed, each counted for each number that the holder held in it so far (at its beginning)");
        Story held = Story.after("takeSpan 1 3 4, take 2 6").is(0, "holder 1 7").then("pass 1").is(3, "holder 1 7")
            .is(1, "holder 2 7");
        held.then("pass 2").is(9, "holder 1 7").then("pass 1").is(12, "holder 1 7").then("pass 1").is(12, "holder 1 7")
            .is(5, "holder 2 7").then("pass 99").is(12, "holder 1 7").is(6, "holder 2 7");
        held.then("giveBack 1 0 1").is(3, "holder 1 7").then("pass 1").is(4, "holder 1 7").then("pass 99").is(6, "holder 1 7");
        held.then("pass 5, renew 1 0 2").is(12, "holder 1 7").then("pass 9").is(14, "holder 1 7");
        // The lease that is given on at the end of a unit is held from the next one on.
        Story.after("set 0 0, take 1 2, wish 2 0 3, pass 2").is(2, "holder 1 7").is(0, "holder 2 7").then("pass 1")
            .is(1, "holder 2 7")
            .then("pass 9").is(3, "holder 2 7").is(2, "holder 1 7");
    }

    private static void span() {
        Story gaps = Story.after("set 3 12, takeSpan 0 12 1, giveBack 0 0 0, giveBack 0 3 5, giveBack 0 7 8, giveBack 0 11 11");
        Story.on("17", "Returns a span of free numbers: a longest possible row of free numbers side by side.");
        int[][] due = {{0, 1}, {3, 3}, {7, 2}, {11, 1}, {-1, -1}};
        for (int k = 0; k < due.length; k++) {
            gaps.is(due[k][0], "span " + k + " 0").is(due[k][1], "span " + k + " 1");
            gaps.then("pass 1").is(due[k][0], "span " + k + " 0").is(due[k][1], "span " + k + " 1");
        }
        gaps.then("pass 6").is(0, "span 0 0").is(12, "span 0 1").is(-1, "span 1 0");
        gaps.then("set 3 13").is(11, "span 3 0").is(2, "span 3 1");

        Story.on("17", "- `span`: its place among the spans, by ascending numbers, from 0");
        gaps.is(0, "span 0 0").is(3, "span 1 0").is(11, "span 3 0").refuses(Due.ARGUMENT, "span -1 0");
        gaps.then("giveBack 0 9 10").is(3, "span 1 0").is(7, "span 2 0").is(-1, "span 3 0").then("wish 1 4 9").is(3, "span 1 0")
            .is(5, "span 2 0").is(7, "span 3 0");

        Story.on("17", "- `what`: 0: its first number;");
        gaps.is(7, "span 2 0").then("wish 1 7 1").is(8, "span 2 0");
        Story.fresh().is(0, "span 0 0").then("take 0 9").is(1, "span 0 0");

        Story.on("17", "1: how many it has");
        gaps.is(2, "span 2 1").then("wish 1 7 1").is(1, "span 2 1");
        Story.fresh().is(32, "span 0 1").then("take 0 9").is(31, "span 0 1").then("set 3 64").is(63, "span 0 1");

        Story.on("17", "Returns the property;");
        gaps.is(3, "span 1 0").is(3, "span 1 1").is(11, "span 3 0").is(1, "span 3 1");

        Story.on("17", "NONE if there are not so many.");
        gaps.is(-1, "span 4 0").is(-1, "span 4 1").is(-1, "span " + Story.MOST_INT + " 0")
            .is(-1, "span " + Story.MOST_INT + " 1");
        Story.fresh().is(-1, "span 1 0").is(-1, "span 1 1");
        Story.after("set 3 4, takeSpan 0 4 1").is(-1, "span 0 0").is(-1, "span 0 1").then("pass 1").is(-1, "span 0 0");

        Story.on("17", "Throws `IllegalArgumentException` if span is below 0, or what is not 0 or 1");
        gaps.refusesEach(Due.ARGUMENT, "span # 0", -1, Story.LEAST_INT);
        gaps.refusesEach(Due.ARGUMENT, "span # 1", -1, Story.LEAST_INT);
        gaps.refusesEach(Due.ARGUMENT, "span 0 #", -1, 2, Story.LEAST_INT, Story.MOST_INT);
        gaps.refusesEach(Due.ARGUMENT, "span 9 #", -1, 2);
    }

    private static void count() {
        Story some = Story.after("takeSpan 0 3 9, take 1 2, wish 2 0 7, pass 2");
        Story.on("18", "Returns a number.");
        int[] due = {2, 28, 3, 1, 1, 4, 0, 0, 0, 0, 1, 28, 4};
        for (int what = 0; what <= 12; what++) {
            some.is(due[what], "count " + what);
        }

        Story.on("18", "- `what`: 0: the time;");
        Story.fresh().is(0, "count 0").then("pass 1").is(1, "count 0").then("pass 99").is(100, "count 0").then("undo")
            .is(1, "count 0");

        Story.on("18", "1 to 3: numbers that are free, held, in grace;");
        Story.fresh().is(32, "count 1").is(0, "count 2").is(0, "count 3").then("set 3 64").is(64, "count 1");
        some.then("set 3 4").is(0, "count 1").is(3, "count 2").is(1, "count 3").then("pass 5").is(1, "count 1").is(0, "count 3")
            .then("pass 2").is(0, "count 2").is(3, "count 3").then("pass 5").is(1, "count 2").is(3, "count 1").is(0, "count 3");

        Story.on("18", "4: wishes that wait;");
        Story waiting = Story.after("takeSpan 0 2 9").is(0, "count 4").then("wish 1 0 5, wish 1 1 5, wish 2 0 5, wish 3 9 5");
        waiting.is(3, "count 4").then("unwish 1 0").is(2, "count 4").then("giveBack 0 0 1").is(0, "count 4");
        waiting.then("giveBack 0 0 0").is(2, "count 4").then("pass 99").is(0, "count 4");

        Story.on("18", "Returns the number.");
        some.is(28, "count 1").is(3, "count 2").is(1, "count 3").is(4, "count 5");

        Story.on("18", "Throws `IllegalArgumentException` if what is not 0 to 12");
        some.is(2, "count 0").is(4, "count 12");
        some.refusesEach(Due.ARGUMENT, "count #", -1, 13, Story.LEAST_INT, Story.MOST_INT);
    }

    private static void countLeases() {
        Story.on("18", "5: leases that were given so far;");
        Story given = Story.fresh().is(0, "count 5").then("take 0 9, takeSpan 1 3 9, wish 2 9 9").is(5, "count 5")
            .then("wish 3 0 5");
        given.is(5, "count 5").then("renew 0 0 5").is(5, "count 5").then("giveBack 0 0 0").is(6, "count 5").then("pass 99")
            .is(6, "count 5");

        Story.on("18", "6: renewals so far;");
        Story renewed = Story.after("takeSpan 0 2 3").is(0, "count 6").then("renew 0 0 3").is(1, "count 6")
            .then("renew 0 1 3").is(2, "count 6");
        renewed.then("pass 3, renew 0 0 9").is(3, "count 6").then("giveBack 0 0 1, pass 9").is(3, "count 6");

        Story.on("18", "7: renewals out of grace so far;");
        renewed.is(0, "count 7").then("pass 2, renew 0 0 1").is(0, "count 7").then("pass 1, renew 0 0 9").is(1, "count 7")
            .then("renew 0 0 9").is(1, "count 7").then("pass 4, renew 0 1 1").is(2, "count 7").is(6, "count 6");

        Story.on("18", "8: numbers that became free so far;");
        Story freed = Story.after("takeSpan 0 4 3").is(0, "count 8").then("giveBack 0 1 2").is(2, "count 8").then("pass 7")
            .is(2, "count 8");
        freed.then("pass 1").is(4, "count 8").then("set 3 4, set 3 64").is(4, "count 8");
        freed.then("wish 1 0 1, wish 2 0 1, pass 1").is(4, "count 8").then("pass 6").is(5, "count 8").then("giveBack 2 0 0")
            .is(6, "count 8");
        Story.after("take 0 3, take 1 9, wish 1 0 5, set 1 1, giveBack 0 0 0").is(1, "count 8");

        Story.on("18", "9: wishes that were lost so far;");
        Story lost = Story.after("takeSpan 0 2 9, take 1 50, take 2 50, wish 1 0 5, wish 2 0 5, wish 3 0 5, wish 1 1 5, set 1 1");
        lost.is(0, "count 9").then("giveBack 0 0 0").is(2, "count 9").then("giveBack 0 1 1").is(3, "count 9").then("pass 99")
            .is(3, "count 9");
        lost.then("unwish 1 0").is(0, "count 9").then("giveBack 0 0 0").is(1, "count 9").then("undo").is(0, "count 9");
    }

    private static void countSpans() {
        Story gaps = Story.after("set 3 12, takeSpan 0 12 1, giveBack 0 0 0, giveBack 0 3 5, giveBack 0 7 8, giveBack 0 11 11");
        Story.on("18", "10: spans of free numbers;");
        Story.fresh().is(1, "count 10").then("wish 0 1 9").is(2, "count 10").then("wish 0 0 9").is(1, "count 10")
            .then("wish 0 30 9")
            .is(2, "count 10").then("wish 0 31 9").is(1, "count 10");
        gaps.is(4, "count 10").then("pass 1").is(4, "count 10").then("pass 5").is(1, "count 10");
        Story.after("set 3 4, takeSpan 0 4 1").is(0, "count 10");

        Story.on("18", "11: the longest one of these, how many it has;");
        Story.fresh().is(32, "count 11").then("wish 0 31 9").is(31, "count 11").then("wish 0 20 9").is(20, "count 11")
            .then("wish 0 5 9").is(14, "count 11").then("set 3 64").is(32, "count 11");
        gaps.is(3, "count 11").then("wish 1 4 9").is(2, "count 11").then("pass 6").is(7, "count 11");
        Story.after("set 3 4, takeSpan 0 4 1").is(0, "count 11");

        Story.on("18", "12: saved states");
        for (int k = 0; k <= 8; k++) {
            Story.fresh().times(k, "pass 1").is(Math.min(k, 6), "count 12");
        }
        Story.after("take 0 9, append 100, firstError, clearBuffer").is(1, "count 12").then("undo").is(0, "count 12");
    }

    private static void setting() {
        Story set = Story.after("set 0 17, set 1 33, set 2 1, set 3 44");
        Story.on("19", "Returns a setting.");
        set.is(17, "setting 0").is(33, "setting 1").is(1, "setting 2").is(44, "setting 3");

        Story.on("19", "- `setting`: 0 to 3");
        Story.fresh().is(5, "setting 0").is(32, "setting 3").refuses(Due.INDEX, "setting -1", "setting 4");

        Story.on("19", "Returns its value.");
        Story.fresh().is(5, "setting 0").is(16, "setting 1").is(0, "setting 2").is(32, "setting 3");
        set.then("undo").is(32, "setting 3").is(1, "setting 2");

        Story.on("19", "Throws `IndexOutOfBoundsException` if there is no such setting");
        set.refusesEach(Due.INDEX, "setting #", -1, 4, 5, Story.LEAST_INT, Story.MOST_INT);
    }
}
