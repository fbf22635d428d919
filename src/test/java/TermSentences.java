/** The sentences under 'Terms' but for 'Input text', each with calls that would answer otherwise if it was broken. */
final class TermSentences {
    private static final int FREE = 0;
    private static final int HELD = 1;
    private static final int IN_GRACE = 2;

    private TermSentences() {
    }

    static void lookAtAll() {
        calls();
        poolAndHolders();
        time();
        leases();
        numbersOfAHolder();
        wishes();
        wishesThatAreServed();
        timePasses();
        settings();
        undo();
        exceptions();
        headings();
    }

    private static void calls() {
        Story.on("What it is", "An object is used for at most 512 calls after it has been made;");
        Story most = Story.fresh().times(102, "takeSpan 0 16 9, wish 1 0 5, digest, giveBack 0 0 15, giveBack 1 0 0");
        most.is(102 * 17, "count 8").does(0, "take 2 1").is(1, "take 2 1").is(6, "count 12");
        Story.fresh().times(511, "digest").is(new NumberLeases().digest(), "digest");
    }

    private static void poolAndHolders() {
        Story.on("Terms", "There is a pool of numbers, 0 to setting 3 less 1, and there are 8 holders, numbered from 0.");
        for (int size : new int[] {4, 5, 31, 32, 33, 63, 64}) {
            Story pool = Story.after("set 1 64, set 3 " + size);
            pool.is(FREE, "number 0 0").is(FREE, "number " + (size - 1) + " 0").is(size, "count 1");
            pool.refuses(Due.INDEX, "number -1 0", "number " + size + " 0");
            Story full = pool.does(0, "takeSpan 7 " + (size - 1) + " 9").does(size - 1, "take 0 9");
            full.refuses(Due.STATE, "take 0 9").is(7, "number 0 1").is(0, "number " + (size - 1) + " 1");
        }
        Story.fresh().is(0, "take 0 1").is(0, "take 7 1").refuses(Due.INDEX, "take -1 1", "take 8 1");
        for (int holder = 0; holder < 8; holder++) {
            Story.after("take " + holder + " 9").is(holder, "number 0 1").is(1, "holder " + holder + " 0");
        }
    }

    private static void time() {
        Story.on("Terms", "There is a time, at first 0.");
        Story.fresh().is(0, "count 0");
        Story.after("take 0 7").is(0, "number 0 2").is(7, "number 0 3");
    }

    private static void leases() {
        Story.on("Terms", "A number is free (0), held (1), or in grace (2).");
        Story.after("takeSpan 0 2 9, take 0 1, pass 1").is(HELD, "number 0 0").is(HELD, "number 1 0")
            .is(IN_GRACE, "number 2 0").is(FREE, "number 3 0");
        Story.after("take 0 1, giveBack 0 0 0").is(FREE, "number 0 0");

        Story.on("Terms", "A lease of a number has a holder, a begin, an end, and a last moment, at least the end: "
            + "the number is held from the begin up to, but not at, the end;");
        Story lease = Story.after("pass 2, take 3 4");
        lease.is(3, "number 0 1").is(2, "number 0 2").is(6, "number 0 3").is(11, "number 0 4").is(HELD, "number 0 0");
        lease.then("pass 3").is(HELD, "number 0 0").then("pass 1").is(IN_GRACE, "number 0 0");
        Story.after("set 0 0, take 0 4").is(4, "number 0 3").is(4, "number 0 4").then("pass 3").is(HELD, "number 0 0")
            .then("pass 1").is(FREE, "number 0 0");
        Story.after("take 0 1").is(HELD, "number 0 0").then("pass 1").is(IN_GRACE, "number 0 0");

        Story.on("Terms", "then it is in grace up to, but not at, the last moment;");
        lease.then("pass 4").is(IN_GRACE, "number 0 0").is(3, "number 0 1").then("pass 4").is(IN_GRACE, "number 0 0")
            .is(3, "number 0 1").then("pass 1").is(FREE, "number 0 0").is(-1, "number 0 1");
        Story.after("set 0 1, take 0 4, pass 4").is(IN_GRACE, "number 0 0").then("pass 1").is(FREE, "number 0 0");
        Story.after("set 0 50, take 0 4, pass 53").is(IN_GRACE, "number 0 0").then("pass 1").is(FREE, "number 0 0");

        Story.on("Terms", "from then on it is free.");
        Story freed = lease.then("pass 9");
        freed.is(FREE, "number 0 0").is(32, "count 1").is(0, "take 1 1").is(0, "wish 1 0 1");
        freed.times(3, "pass 99").is(FREE, "number 0 0").is(1, "count 8");

        Story.on("Terms", "A lease that is given at a time for a term begins at this time, ends at the time plus the term, "
            + "and its last moment is the end plus setting 0 as it is then.");
        for (int grace : new int[] {0, 1, 5, 50}) {
            for (int term : new int[] {1, 2, 998, 999}) {
                Story given = Story.after("pass 7, set 0 " + grace + ", take 0 " + term + ", set 0 25");
                given.is(7, "number 0 2").is(7 + term, "number 0 3").is(7 + term + grace, "number 0 4");
            }
        }
        Story.after("pass 7, set 0 8, takeSpan 0 3 10").is(7, "number 2 2").is(17, "number 2 3").is(25, "number 2 4");
        Story.after("pass 7, set 0 8, wish 0 9 10").is(7, "number 9 2").is(17, "number 9 3").is(25, "number 9 4");
        Story.after("take 0 9, wish 1 0 10, set 0 8, pass 3, giveBack 0 0 0").is(3, "number 0 2").is(13, "number 0 3")
            .is(21, "number 0 4");
        Story.after("take 0 9, wish 1 0 10, set 0 8, pass 20").is(14, "number 0 2").is(24, "number 0 3").is(32, "number 0 4");

        Story.on("Terms", "So no number has two holders at a moment.");
        Story held = Story.after("take 0 9, wish 1 0 9");
        held.is(0, "number 0 1").is(0, "holder 1 0").is(1, "take 1 9").refuses(Due.STATE, "renew 1 0 9");
        Story grace = held.then("pass 9");
        grace.is(0, "number 0 1").is(0, "holder 1 1").is(1, "take 1 9").refuses(Due.STATE, "renew 1 0 9");
        Story served = grace.then("pass 5");
        served.is(1, "number 0 1").is(0, "holder 0 0").is(0, "holder 0 1").is(1, "holder 1 0");
        served.refuses(Due.STATE, "renew 0 0 9").is(0, "giveBack 0 0 31").is(1, "giveBack 1 0 31");
    }

    private static void numbersOfAHolder() {
        Story.on("Terms", "A holder has the numbers of its leases, held or in grace;");
        Story grace = Story.after("set 1 2, take 0 1, take 0 9, pass 1");
        grace.is(1, "holder 0 0").is(1, "holder 0 1").is(0, "holder 0 3").is(0, "number 0 1");
        grace.refuses(Due.STATE, "take 0 1", "wish 0 5 1", "wish 0 0 1", "wish 0 1 1");
        grace.is(1, "renew 0 0 4").is(9, "renew 0 1 4").is(2, "giveBack 0 0 31").is(0, "whoAfter 0 0");
        grace.then("pass 5").is(1, "holder 0 3").is(0, "take 0 1");

        Story.on("Terms", "it can have at most setting 1 of them (a lower setting takes none away).");
        for (int limit : new int[] {1, 2, 16, 63, 64}) {
            Story full = Story.after("set 3 64, set 1 " + limit + ", takeSpan 0 " + limit + " 9");
            full.is(limit, "holder 0 0");
            if (limit < 64) {
                full.refuses(Due.STATE, "take 0 1", "takeSpan 0 1 1", "wish 0 63 1").is(limit, "take 1 1");
            }
            Story lower = full.then("set 1 1");
            lower.is(limit, "holder 0 0").is(HELD, "number 0 0").is(HELD, "number " + (limit - 1) + " 0");
            lower.then("pass 8").is(limit, "holder 0 0").is(9, "renew 0 0 4");
        }
        Story lowered = Story.after("takeSpan 0 3 9, set 1 2").refuses(Due.STATE, "take 0 1", "wish 0 9 1");
        lowered.then("giveBack 0 0 0").refuses(Due.STATE, "take 0 1").then("giveBack 0 1 1").is(0, "take 0 1");
    }

    private static void wishes() {
        Story.on("Wishes", "Somebody can wish for a number, for a term.");
        Story.after("pass 3, wish 6 9 7").is(6, "number 9 1").is(3, "number 9 2").is(10, "number 9 3").is(1, "holder 6 5");
        Story.after("take 0 9, wish 6 0 7").is(6, "number 0 6").is(7, "number 0 7").is(1, "holder 6 2");

        Story.on("Wishes", "If the number is free, it is given at once.");
        Story.fresh().does(0, "wish 2 31 5").is(HELD, "number 31 0").is(2, "number 31 1").is(0, "number 31 5").is(0, "count 4");
        Story.after("take 0 1, pass 6").does(0, "wish 2 0 5").is(2, "number 0 1").is(6, "number 0 2");

        Story.on("Wishes", "Otherwise the wish waits behind the wishes for this number that wait already, at most 3 for each number.");
        Story three = Story.after("takeSpan 0 2 1").does(1, "wish 3 0 10").does(2, "wish 1 0 11").does(3, "wish 2 0 12");
        three.is(0, "number 0 1").is(3, "number 0 5").is(3, "number 0 6").is(10, "number 0 7");
        three.refuses(Due.STATE, "wish 4 0 13").refuses(Due.STATE, "wish 7 0 1");
        three.does(1, "wish 1 1 20").does(2, "wish 2 1 21").does(3, "wish 3 1 22").refuses(Due.STATE, "wish 4 1 23")
            .is(6, "count 4").is(2, "holder 1 2");
        three.then("unwish 1 0").does(3, "wish 4 0 13").refuses(Due.STATE, "wish 1 0 11");
        three.then("pass 1").refuses(Due.STATE, "wish 4 0 13");
        Story.after("take 0 1, pass 1").is(IN_GRACE, "number 0 0").does(1, "wish 1 0 9").is(0, "number 0 1");
    }

    private static void wishesThatAreServed() {
        Story.on("Wishes", "When a number becomes free, then, as long as it is free, and wishes wait for it, "
            + "the first one of them is taken away;");
        Story three = Story.after("take 0 1, wish 3 0 10, wish 1 0 11, wish 2 0 12");
        Story first = three.then("giveBack 0 0 0");
        first.is(3, "number 0 1").is(2, "number 0 5").is(1, "number 0 6").is(11, "number 0 7").is(0, "holder 3 2");
        Story second = first.then("giveBack 3 0 0");
        second.is(1, "number 0 1").is(1, "number 0 5").is(2, "number 0 6").is(12, "number 0 7");
        Story third = second.then("giveBack 1 0 0");
        third.is(2, "number 0 1").is(0, "number 0 5").is(-1, "number 0 6").is(-1, "number 0 7");
        third.then("giveBack 2 0 0").is(FREE, "number 0 0").is(0, "count 4").is(0, "count 9");
        three.then("pass 5").is(0, "number 0 1").is(3, "number 0 5");
        three.then("pass 6").is(3, "number 0 1").is(2, "number 0 5").is(1, "number 0 6");
        Story noRoom = three.then("takeSpan 3 1 99, takeSpan 1 1 99, takeSpan 2 1 99, set 1 1");
        noRoom.then("giveBack 0 0 0").is(FREE, "number 0 0").is(0, "count 4").is(3, "count 9").is(1, "count 8");
        noRoom.then("giveBack 1 2 2, giveBack 0 0 0").is(1, "number 0 1").is(1, "number 0 5").is(2, "number 0 6")
            .is(1, "count 9");

        Story.on("Wishes", "and if its holder has fewer than setting 1 numbers, the number is given on a lease for its term;");
        Story.after("take 0 9, wish 1 0 30, takeSpan 1 2 50, set 1 3, pass 4, giveBack 0 0 0").is(1, "number 0 1")
            .is(4, "number 0 2").is(34, "number 0 3").is(39, "number 0 4").is(3, "holder 1 5").is(0, "holder 1 6")
            .is(2, "number 0 8");
        Story.after("set 1 1, take 0 9, wish 1 0 999, giveBack 0 0 0").is(1, "number 0 1").is(999, "number 0 3");

        Story.on("Wishes", "otherwise the wish is lost.");
        for (int limit = 1; limit <= 2; limit++) {
            Story lost = Story.after("take 0 9, wish 1 0 30, takeSpan 1 2 50, set 1 " + limit + ", giveBack 0 0 0");
            lost.is(FREE, "number 0 0").is(0, "number 0 5").is(0, "count 4").is(1, "count 9").is(1, "holder 1 6");
            lost.is(2, "holder 1 5").is(2, "holder 1 0").then("giveBack 1 0 31, pass 9").is(FREE, "number 0 0");
        }
        Story.after("take 0 9, wish 1 0 30, take 1 1, set 1 1, pass 1, giveBack 0 0 0").is(FREE, "number 0 0").is(1, "count 9");
    }

    private static void timePasses() {
        Story.on("Time passes", "Time passes by units: for each unit the time becomes 1 more, and then all numbers are looked at, "
            + "by ascending numbers: one that is held, and whose end is the time, is in grace;");
        Story two = Story.after("takeSpan 0 2 3, wish 1 31 4");
        two.then("pass 1").is(1, "count 0").is(3, "count 2").then("pass 1").is(2, "count 0").is(3, "count 2");
        two.then("pass 3").is(3, "count 0").is(IN_GRACE, "number 0 0").is(IN_GRACE, "number 1 0").is(HELD, "number 31 0");
        two.then("pass 4").is(IN_GRACE, "number 31 0").is(3, "count 3");
        Story wished = two.then("wish 2 0 2, wish 3 1 4, wish 4 0 1");
        wished.then("pass 30").times(6, "set 0 5").endsAs(wished.times(30, "pass 1").times(6, "set 0 5"));
        // Holder 1 has a number that is looked at later, or earlier, in the same unit in which the wish is served.
        Story.after("take 0 1, take 1 1, wish 1 0 5, set 1 1, pass 6").is(FREE, "number 0 0").is(1, "holder 1 6");
        Story.after("take 1 1, take 0 1, wish 1 1 5, set 1 1, pass 6").is(1, "number 1 1").is(0, "holder 1 6");

        Story.on("Time passes", "one that is in grace, and whose last moment is the time, becomes free, with its wishes as told "
            + "(so with setting 0 as 0 both happen at once).");
        Story.after("take 0 3, pass 7").is(IN_GRACE, "number 0 0").then("pass 1").is(FREE, "number 0 0").is(1, "count 8");
        Story.after("take 0 3, wish 1 0 9, pass 7").is(0, "number 0 1").then("pass 1").is(1, "number 0 1").is(8, "number 0 2");
        Story.after("set 0 0, take 0 3, pass 2").is(HELD, "number 0 0").does(1, "pass 1").is(FREE, "number 0 0");
        Story.after("set 0 0, take 0 3, wish 1 0 1, wish 2 0 1, pass 2").does(1, "pass 1").is(1, "number 0 1").does(1, "pass 1")
            .is(2, "number 0 1").does(1, "pass 1").is(FREE, "number 0 0").is(1, "holder 1 7").is(1, "holder 2 7");
        Story.after("set 0 0, take 0 3, set 0 9, take 1 3, set 0 0, pass 3").is(FREE, "number 0 0").is(IN_GRACE, "number 1 0");
    }

    private static void settings() {
        Story.on("Settings", "0: grace, 0 to 50, at first 5;");
        bounds(0, 0, 50, 5);
        Story.after("take 0 1").is(6, "number 0 4");
        Story.after("set 0 0, take 0 1").is(1, "number 0 4");
        Story.after("set 0 50, take 0 1").is(51, "number 0 4");

        Story.on("Settings", "1: the most numbers of a holder, 1 to 64, at first 16;");
        bounds(1, 1, 64, 16);
        Story.after("takeSpan 0 16 9").refuses(Due.STATE, "take 0 9");
        Story.after("set 1 1, take 0 9").refuses(Due.STATE, "take 0 9").is(1, "take 1 9");
        Story.after("set 3 64, set 1 63").refuses(Due.STATE, "takeSpan 0 64 9").then("set 1 64").is(0, "takeSpan 0 64 9");

        Story.on("Settings", "2: 1 if a number for which a wish waits cannot be renewed, 0 if it can, at first 0;");
        bounds(2, 0, 1, 0);
        Story wished = Story.after("take 0 9, take 0 8, wish 1 0 5").is(9, "renew 0 0 4");
        Story barred = wished.then("set 2 1").refuses(Due.STATE, "renew 0 0 4").is(8, "renew 0 1 4");
        barred.then("pass 9").refuses(Due.STATE, "renew 0 0 4").then("set 2 0").is(9, "renew 0 0 4");
        barred.then("unwish 1 0").is(9, "renew 0 0 4");

        Story.on("Settings", "3: the size of the pool, 4 to 64, at first 32.");
        bounds(3, 4, 64, 32);
        Story.fresh().is(32, "count 1").is(0, "number 31 0").refuses(Due.INDEX, "number 32 0");
        Story.after("set 3 4").is(4, "count 1").is(0, "number 3 0").refuses(Due.INDEX, "number 4 0");
        Story.after("set 3 64").is(64, "count 1").is(0, "number 63 0").refuses(Due.INDEX, "number 64 0");
    }

    private static void bounds(int setting, int least, int most, int first) {
        Story.fresh().is(first, "setting " + setting);
        Story.fresh().then("set " + setting + " " + least).is(least, "setting " + setting);
        Story.fresh().then("set " + setting + " " + most).is(most, "setting " + setting);
        Story.fresh().refuses(Due.ARGUMENT, "set " + setting + " " + (least - 1), "set " + setting + " " + (most + 1));
    }

    private static void undo() {
        Story.on("Undo", "Each method that is marked \"undoable\" and does not throw an exception saves the state from before it "
            + "(also if it changes nothing): all, also what is counted so far, but the buffer and the saved states.");
        Story rich = rich();
        for (String call : new String[] {"take 3 7", "takeSpan 3 4 7", "wish 7 0 7", "wish 3 20 7", "unwish 4 1", "renew 0 0 7",
            "giveBack 0 0 31", "giveBack 7 0 31", "pass 1", "pass 99", "set 0 0", "set 1 64", "set 2 1", "set 3 64",
                "set 3 32"}) {
            rich.undoes(call);
        }
        rich.then("type t3*7;d9, run, undo").endsAs(rich);
        for (String call : new String[] {"append 100", "clearBuffer", "firstError", "number 0 0", "holder 0 0", "span 0 0",
            "count 5", "setting 0", "whoAfter 0 9", "freeIn 4", "wishedIn 2 0", "fullness", "scatter", "meanHeld", "digest"}) {
            rich.then(call).is(3, "count 12");
        }
        rich.then("type t0*1").then("take 1 1, undo").is(4, "clearBuffer");
        rich.then("take 1 1, type d1, undo").is(2, "clearBuffer");
        rich.then("type t0*1, take 1 1, clearBuffer, type d2, undo").is(2, "firstError").is(1, "run");
        Story.after("take 0 9, pass 3, undo").is(0, "holder 0 7").is(0, "count 0");

        Story.on("Undo", "At most 6 states are saved;");
        Story five = Story.fresh().times(5, "pass 1").is(5, "count 12");
        five.then("pass 1").is(6, "count 12").then("pass 1").is(6, "count 12").then("pass 1").is(6, "count 12");
        Story none = five.times(9, "pass 1").times(6, "undo").is(0, "count 12");
        none.refuses(Due.STATE, "undo");

        Story.on("Undo", "the oldest one is dropped first.");
        Story six = Story.after("pass 1, pass 2, pass 3, pass 4, pass 5, pass 6").is(21, "count 0");
        six.times(6, "undo").is(0, "count 0").refuses(Due.STATE, "undo");
        Story seven = six.then("pass 7");
        int[] times = {21, 15, 10, 6, 3, 1};
        for (int k = 0; k < 6; k++) {
            seven.times(k + 1, "undo").is(times[k], "count 0").is(5 - k, "count 12");
        }
        seven.times(6, "undo").refuses(Due.STATE, "undo");
        seven.times(2, "undo").times(3, "pass 10").times(6, "undo").is(3, "count 0");
    }

    /** Three saved states, all kinds of numbers, wishes that wait and that are lost, and an empty buffer; the time is 12. */
    static Story rich() {
        Story story = Story.after("takeSpan 0 3 40, takeSpan 5 2 9, takeSpan 1 2 40, set 1 2, wish 1 3 8, giveBack 5 3 3, set 1 9");
        story = story.then("wish 1 0 6, wish 2 0 7, wish 4 1 8, renew 0 2 60, pass 12, set 0 6");
        return story.times(3, "set 0 6").times(3, "undo");
    }

    private static void exceptions() {
        Story.on("Exceptions", "A call that throws an exception changes nothing.");
        Story rich = rich().then("type d1;x");
        rich.refuses(Due.INDEX, "take 8 1", "takeSpan 8 1 1", "wish 8 0 1", "wish 0 32 1", "unwish 8 0", "unwish 4 32",
            "renew 8 0 1", "renew 0 32 1", "giveBack 8 0 0", "giveBack 0 0 32", "giveBack 0 -1 0", "set 4 1", "number 32 0",
            "holder 8 0", "setting 4", "whoAfter 32 0", "wishedIn 8 0", "wishedIn 0 32");
        rich.refuses(Due.ARGUMENT, "take 1 0", "takeSpan 1 0 1", "takeSpan 1 1 0", "wish 7 0 0", "renew 0 0 0", "giveBack 0 1 0",
            "pass 0", "set 0 51", "set 3 65", "append 32", "run", "number 0 9", "holder 0 8", "span -1 0", "span 0 2", "count 13",
            "whoAfter 0 501", "freeIn 0");
        rich.refuses(Due.STATE, "takeSpan 1 9 1", "takeSpan 7 26 1", "wish 0 0 1", "wish 2 0 1", "unwish 3 0", "renew 1 0 1",
            "renew 0 31 1", "set 3 6");
        rich.times(56, "append 33").refuses(Due.STATE, "append 33");
        rich.then("set 3 7, take 3 1").refuses(Due.STATE, "take 7 1", "takeSpan 7 1 1");
        rich.then("set 2 1").refuses(Due.STATE, "renew 0 0 1");
        rich.times(3, "undo").refuses(Due.STATE, "undo");
        Story.fresh().times(101, "pass 99").then("take 0 4, wish 1 0 3").refuses(Due.STATE, "pass 1");

        Story.on("Exceptions", "If several exceptions apply, the one that is named first in the throws clause is thrown.");
        Story full = Story.after("set 3 4, takeSpan 0 4 9");
        full.refuses(Due.INDEX, "take 8 0", "take -1 1", "takeSpan 8 0 1", "takeSpan -1 1 0", "takeSpan 8 1 1");
        full.refuses(Due.ARGUMENT, "take 0 0", "take 1 1000", "takeSpan 0 65 1", "takeSpan 1 1 1000", "takeSpan 0 0 0");
        full.refuses(Due.INDEX, "wish 8 0 0", "wish 0 4 0", "wish -1 0 1", "wish 0 -1 1000").refuses(Due.ARGUMENT, "wish 0 0 0");
        full.refuses(Due.INDEX, "unwish 8 0", "unwish 0 4", "unwish -1 -1").refuses(Due.STATE, "unwish 0 0");
        full.refuses(Due.INDEX, "renew 8 0 0", "renew 1 4 0", "renew -1 0 1", "renew 1 -1 1")
            .refuses(Due.ARGUMENT, "renew 1 0 0");
        full.refuses(Due.INDEX, "giveBack 8 1 0", "giveBack 0 4 0", "giveBack 0 0 -1", "giveBack -1 3 2", "giveBack 0 4 3");
        full.refuses(Due.INDEX, "set 4 -1", "set -1 65").refuses(Due.ARGUMENT, "set 3 3");
        full.refuses(Due.INDEX, "number 4 9", "number -1 -1", "holder 8 8", "holder -1 -1", "whoAfter 4 501", "whoAfter -1 -1");
        Story late = Story.fresh().times(101, "pass 99").refuses(Due.ARGUMENT, "pass 100", "pass 0")
            .refuses(Due.STATE, "pass 99");
        late.times(60, "append 33").refuses(Due.ARGUMENT, "append 32", "append 127").refuses(Due.STATE, "append 126");
    }

    private static void headings() {
        Story.on("Exceptions", "The constants: `NONE = -1`: There is nothing to return.");
        Due.is("NONE", -1, NumberLeases.NONE);
        Story.fresh().is(NumberLeases.NONE, "number 0 1").is(NumberLeases.NONE, "holder 0 3").is(NumberLeases.NONE, "span 1 0");

        Story rich = rich().then("type w1@2*3;");
        Story.on("Exceptions", "Ahead of the calls `number`, `holder`, `span`, `count`, `setting` the interface says: ---- looks;");
        for (String look : new String[] {"number 0 0", "number 31 8", "holder 0 0", "holder 7 7", "span 0 0", "span 9 1",
            "count 0", "count 12", "setting 0", "setting 3"}) {
            rich.then(look).endsAs(rich);
        }

        Story.on("Exceptions", "nothing is changed.");
        for (int what = 0; what <= 12; what++) {
            Story looked = rich.then("count " + what);
            looked = what > 8 ? looked : looked.then("number 0 " + what).then("number 1 " + what).then("number 31 " + what);
            looked = what > 7 ? looked : looked.then("holder 0 " + what).then("holder 2 " + what);
            looked = what > 1 ? looked : looked.then("span 0 " + what).then("span 50 " + what);
            looked = what > 3 ? looked : looked.then("setting " + what);
            looked.endsAs(rich);
        }

        Story.on("Exceptions", "Ahead of the calls `whoAfter`, `freeIn`, `wishedIn`, `fullness`, `scatter`, `meanHeld`, `digest` "
            + "the interface says: ---- what would be, if nothing was done but time passes;");
        rich.is(0, "whoAfter 1 32").does(4, "whoAfter 1 33").is(1, "number 1 5").is(4, "whoAfter 1 46").is(-1, "whoAfter 1 47");
        rich.then("pass 32").is(0, "number 1 1").then("pass 1").is(4, "number 1 1").is(45, "number 1 2");

        Story.on("Exceptions", "nothing is changed, and the limit of time does not matter.");
        for (String look : new String[] {"whoAfter 0 0", "whoAfter 0 500", "freeIn 1", "freeIn 32", "freeIn 64", "wishedIn 0 0",
            "wishedIn 7 0", "wishedIn 7 31", "wishedIn 7 1", "fullness", "scatter", "meanHeld", "digest"}) {
            rich.then(look).endsAs(rich);
        }
        Story late = Story.fresh().times(101, "pass 99").then("set 1 64, take 0 10, takeSpan 1 31 495");
        late.is(9999, "count 0").is(0, "whoAfter 0 14").is(-1, "whoAfter 0 15").is(-1, "whoAfter 31 500")
            .is(1, "whoAfter 31 499");
        late.is(15, "freeIn 1").is(500, "freeIn 2").is(500, "freeIn 32").is(15, "wishedIn 2 0").is(500, "wishedIn 2 9");
    }
}
