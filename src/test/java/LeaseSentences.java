/** The sentences of promises 1 to 9, each with calls that would answer otherwise if it was broken. */
final class LeaseSentences {
    private static final int FREE = 0;
    private static final int HELD = 1;
    private static final int IN_GRACE = 2;

    private LeaseSentences() {
    }

    static void lookAtAll() {
        newObject();
        take();
        takeRefused();
        takeSpan();
        takeSpanRefused();
        wish();
        wishRefused();
        unwish();
        renew();
        renewRefused();
        giveBack();
        pass();
        set();
    }

    private static void noHolder(Story story, String call) {
        story.refusesEach(Due.INDEX, call, -1, 8, 9, Story.LEAST_INT, Story.MOST_INT);
    }

    private static void noNumber(Story story, String call) {
        story.refusesEach(Due.INDEX, call, -1, 32, 63, 64, Story.LEAST_INT, Story.MOST_INT);
        story.then("set 3 4").refusesEach(Due.INDEX, call, -1, 4, 5);
        story.then("set 3 64").refusesEach(Due.INDEX, call, -1, 64);
    }

    private static void noTerm(Story story, String call) {
        story.refusesEach(Due.ARGUMENT, call, 0, -1, 1000, Story.LEAST_INT, Story.MOST_INT);
    }

    private static void newObject() {
        Story.on("1", "Creates a pool of free numbers, at the time 0, with an empty buffer.");
        int[] counts = {0, 32, 0, 0, 0, 0, 0, 0, 0, 0, 1, 32, 0};
        Story fresh = Story.fresh();
        for (int what = 0; what <= 12; what++) {
            fresh.is(counts[what], "count " + what);
        }
        for (int n = 0; n < 32; n++) {
            fresh.is(FREE, "number " + n + " 0").is(-1, "number " + n + " 1").is(0, "number " + n + " 8");
        }
        for (int holder = 0; holder < 8; holder++) {
            fresh.is(0, "holder " + holder + " 0").is(0, "holder " + holder + " 5").is(0, "holder " + holder + " 7");
        }
        fresh.is(0, "clearBuffer").is(0, "firstError").refuses(Due.STATE, "undo");
        NumberLeases one = new NumberLeases();
        NumberLeases other = new NumberLeases();
        one.take(0, 9);
        one.append(100);
        Due.is("1: the other object stays new", fresh.tell().digest(), other.digest());
    }

    private static void take() {
        Story.on("2", "Takes the least free number.");
        Story.fresh().does(0, "take 0 9").does(1, "take 0 9").does(2, "take 1 9").is(3, "count 2");
        Story gaps = Story.after("takeSpan 0 5 9, giveBack 0 1 1, giveBack 0 3 3");
        gaps.does(1, "take 1 9").does(3, "take 1 9").does(5, "take 1 9").is(3, "holder 1 0");
        Story.after("take 0 1, pass 1").is(1, "take 1 9").then("pass 4").is(1, "take 1 9").then("pass 1").is(0, "take 1 9");
        Story.after("set 3 4, takeSpan 0 3 9").is(3, "take 1 9");
        Story.after("takeSpan 0 2 9, wish 1 0 9, giveBack 0 0 0").is(2, "take 1 9");

        Story.on("2", "Undoable.");
        Story.after("takeSpan 0 3 9, giveBack 0 1 1, pass 2").undoes("take 4 7");

        Story.on("2", "- `holder`: 0 to 7");
        Story.after("take 0 9").is(0, "number 0 1").is(1, "holder 0 0");
        Story.after("take 7 9").is(7, "number 0 1").is(1, "holder 7 0");
        Story.fresh().refuses(Due.INDEX, "take -1 9", "take 8 9");

        Story.on("2", "- `term`: 1 to 999");
        Story.after("pass 3, take 0 1").is(4, "number 0 3").then("pass 1").is(IN_GRACE, "number 0 0");
        Story.after("pass 3, take 0 999").is(1002, "number 0 3");
        Story.fresh().refuses(Due.ARGUMENT, "take 0 0", "take 0 1000");

        Story.on("2", "Returns the number.");
        Story.after("takeSpan 0 9 9, giveBack 0 6 6").does(6, "take 3 9").is(3, "number 6 1").is(6, "holder 3 3");
    }

    private static void takeRefused() {
        Story.on("2", "Throws `IndexOutOfBoundsException` if there is no such holder");
        noHolder(Story.after("take 0 9"), "take # 9");

        Story.on("2", "Throws `IllegalArgumentException` if term is out of range");
        noTerm(Story.after("take 0 9"), "take 0 #");

        Story.on("2", "Throws `IllegalStateException` if no number is free, or the holder has setting 1 numbers, or more");
        Story three = Story.after("set 3 4, takeSpan 0 3 9").is(3, "take 1 9");
        three.then("take 2 1").refuses(Due.STATE, "take 1 9").then("pass 1").refuses(Due.STATE, "take 1 9")
            .then("pass 5").is(3, "take 1 9");
        Story.after("set 1 3, takeSpan 0 2 9").does(2, "take 0 9").refuses(Due.STATE, "take 0 9").is(3, "take 1 9");
        Story.after("takeSpan 0 4 9, set 1 3").refuses(Due.STATE, "take 0 9").then("set 1 4").refuses(Due.STATE, "take 0 9")
            .then("set 1 5").is(4, "take 0 9");
        Story.after("set 1 2, take 0 1, take 0 9, pass 1").refuses(Due.STATE, "take 0 9").then("pass 4")
            .refuses(Due.STATE, "take 0 9").then("pass 1").is(0, "take 0 9");
    }

    private static void takeSpan() {
        Story.on("3", "Takes free numbers side by side: the lowest ones that there are.");
        Story gaps = Story.after("set 3 12, takeSpan 0 12 9, giveBack 0 1 2, giveBack 0 4 6, giveBack 0 9 11");
        gaps.is(1, "takeSpan 1 1 9").is(1, "takeSpan 1 2 9").is(4, "takeSpan 1 3 9").refuses(Due.STATE, "takeSpan 1 4 9");
        gaps.does(4, "takeSpan 1 3 9").does(9, "takeSpan 1 3 9").does(1, "takeSpan 1 2 9").is(8, "holder 1 0").is(0, "count 1");
        Story two = gaps.then("takeSpan 1 3 9, takeSpan 1 2 9");
        two.is(FREE, "number 10 0").is(HELD, "number 2 0").is(9, "takeSpan 1 3 9").is(9, "takeSpan 1 1 9");
        gaps.then("takeSpan 1 2 9").is(HELD, "number 1 0").is(HELD, "number 2 0").is(FREE, "number 4 0").is(1, "number 2 1");
        Story.after("take 0 1, pass 1").is(1, "takeSpan 1 2 9");

        Story.on("3", "Undoable.");
        Story.after("takeSpan 0 3 9, giveBack 0 1 1, pass 2").undoes("takeSpan 4 5 7");

        Story.on("3", "- `holder`: 0 to 7");
        Story.after("takeSpan 0 2 9").is(0, "number 0 1").is(0, "number 1 1");
        Story.after("takeSpan 7 2 9").is(7, "number 0 1").is(7, "number 1 1");
        Story.fresh().refuses(Due.INDEX, "takeSpan -1 1 9", "takeSpan 8 1 9");

        Story.on("3", "- `many`: 1 to 64");
        Story all = Story.after("set 1 64, set 3 64");
        all.does(0, "takeSpan 0 1 9").is(1, "holder 0 0").is(FREE, "number 1 0");
        all.does(0, "takeSpan 0 64 9").is(64, "holder 0 0").is(HELD, "number 63 0").is(0, "count 1");
        all.refuses(Due.ARGUMENT, "takeSpan 0 0 9", "takeSpan 0 65 9");

        Story.on("3", "- `term`: 1 to 999, for each of them");
        Story.after("pass 3, takeSpan 0 3 1").is(4, "number 0 3").is(4, "number 1 3").is(4, "number 2 3");
        Story.after("pass 3, takeSpan 0 3 999").is(1002, "number 0 3").is(1002, "number 1 3").is(1002, "number 2 3");
        Story.fresh().refuses(Due.ARGUMENT, "takeSpan 0 3 0", "takeSpan 0 3 1000");

        Story.on("3", "Returns the lowest one of them.");
        Story.after("takeSpan 0 9 9, giveBack 0 5 7").does(5, "takeSpan 3 3 9").is(5, "holder 3 3").is(3, "number 7 1");
    }

    private static void takeSpanRefused() {
        Story some = Story.after("take 0 9");
        Story.on("3", "Throws `IndexOutOfBoundsException` if there is no such holder");
        noHolder(some, "takeSpan # 2 9");

        Story.on("3", "Throws `IllegalArgumentException` if many or term is out of range");
        noTerm(some, "takeSpan 0 2 #");
        some.refusesEach(Due.ARGUMENT, "takeSpan 0 # 9", 0, -1, 65, Story.LEAST_INT, Story.MOST_INT);
        some.then("set 1 64, set 3 64").refusesEach(Due.ARGUMENT, "takeSpan 0 # 9", 0, 65);

        Story.on("3", "Throws `IllegalStateException` if there are not so many free numbers side by side, "
            + "or the holder would have more than setting 1");
        Story gaps = Story.after("set 3 8, takeSpan 0 8 9, giveBack 0 0 1, giveBack 0 3 4, giveBack 0 6 7").is(6, "count 1");
        gaps.refuses(Due.STATE, "takeSpan 1 3 9", "takeSpan 1 6 9", "takeSpan 1 7 9").is(0, "takeSpan 1 2 9");
        gaps.then("giveBack 0 5 5").is(3, "takeSpan 1 5 9").refuses(Due.STATE, "takeSpan 1 6 9");
        Story.after("set 3 4, takeSpan 0 3 9").is(3, "takeSpan 1 1 9").then("take 2 9").refuses(Due.STATE, "takeSpan 1 1 9");
        Story.after("set 3 4").is(0, "takeSpan 1 4 9").refuses(Due.STATE, "takeSpan 1 5 9");
        Story.fresh().is(0, "takeSpan 0 16 9").refuses(Due.STATE, "takeSpan 0 17 9");
        Story.after("set 1 5, take 0 9").is(1, "takeSpan 0 4 9").refuses(Due.STATE, "takeSpan 0 5 9").is(1, "takeSpan 1 5 9");
        Story.after("set 1 5, take 0 1, pass 1").is(1, "takeSpan 0 4 9").refuses(Due.STATE, "takeSpan 0 5 9");
        Story.after("takeSpan 0 5 9, set 1 4").refuses(Due.STATE, "takeSpan 0 1 9").then("set 1 6").is(5, "takeSpan 0 1 9");
    }

    private static void wish() {
        Story.on("4", "Wishes for a number.");
        Story.after("wish 3 20 9").is(3, "number 20 1").is(20, "holder 3 3");
        Story.after("takeSpan 0 2 9, wish 3 1 9").is(3, "number 1 6").is(9, "number 1 7").is(0, "number 0 5").is(1, "holder 3 2");

        Story.on("4", "Undoable.");
        Story held = Story.after("takeSpan 0 3 9, wish 1 0 4, pass 2");
        held.undoes("wish 4 20 7");
        held.undoes("wish 4 0 7");

        Story.on("4", "- `holder`: 0 to 7");
        Story.after("wish 0 5 9").is(0, "number 5 1").then("wish 7 5 8").is(7, "number 5 6");
        Story.after("wish 7 5 9").is(7, "number 5 1").then("wish 0 5 8").is(0, "number 5 6");
        Story.fresh().refuses(Due.INDEX, "wish -1 5 9", "wish 8 5 9");

        Story.on("4", "- `number`: a number of the pool");
        for (int size : new int[] {4, 32, 64}) {
            Story pool = Story.after("set 3 " + size);
            pool.then("wish 1 0 9").is(1, "number 0 1");
            pool.then("wish 1 " + (size - 1) + " 9").is(1, "number " + (size - 1) + " 1");
            pool.refuses(Due.INDEX, "wish 1 -1 9", "wish 1 " + size + " 9");
        }

        Story.on("4", "- `term`: 1 to 999");
        Story.after("wish 1 0 1").is(1, "number 0 3").then("wish 2 0 1").is(1, "number 0 7");
        Story.after("wish 1 0 999").is(999, "number 0 3").then("wish 2 0 999").is(999, "number 0 7");
        Story.after("wish 1 0 9").refuses(Due.ARGUMENT, "wish 1 5 0", "wish 1 5 1000", "wish 2 0 0", "wish 2 0 1000");

        Story.on("4", "Returns 0 if it is given at once, otherwise how many wishes wait for it then.");
        Story.fresh().does(0, "wish 1 0 9").does(1, "wish 2 0 9").does(2, "wish 3 0 9").does(3, "wish 4 0 9")
            .does(0, "wish 4 1 9");
        Story.after("take 0 1, pass 1").is(1, "wish 1 0 9").then("pass 5").is(0, "wish 1 0 9");
        Story.after("wish 1 0 9, wish 2 0 9, wish 3 0 9, unwish 2 0").is(2, "wish 4 0 9");
    }

    private static void wishRefused() {
        Story some = Story.after("take 0 9, wish 1 0 9");
        Story.on("4", "Throws `IndexOutOfBoundsException` if there is no such holder or number");
        noHolder(some, "wish # 0 9");
        noHolder(some, "wish # 1 9");
        noNumber(some, "wish 2 # 9");

        Story.on("4", "Throws `IllegalArgumentException` if term is out of range");
        noTerm(some, "wish 2 0 #");
        noTerm(some, "wish 2 1 #");

        Story.on("4", "Throws `IllegalStateException` if it is free and the holder has setting 1 numbers, or more;");
        Story.after("set 1 3, takeSpan 1 2 9").does(0, "wish 1 9 9").refuses(Due.STATE, "wish 1 8 9").is(0, "wish 2 8 9");
        Story.after("takeSpan 1 3 9, set 1 2").refuses(Due.STATE, "wish 1 9 9").then("set 1 3").refuses(Due.STATE, "wish 1 9 9")
            .then("set 1 4").is(0, "wish 1 9 9");
        Story.after("set 1 1, take 1 1, pass 1").refuses(Due.STATE, "wish 1 9 9").then("pass 5").is(0, "wish 1 9 9");
        Story.after("set 1 1, take 0 9, take 1 9").is(1, "wish 1 0 9");

        Story.on("4", "or if it is not free and 3 wishes wait for it, or the holder has it, or has a wish for it already");
        Story two = Story.after("takeSpan 0 2 1, wish 1 0 9, wish 2 0 9").is(3, "wish 3 0 9");
        Story three = two.then("wish 3 0 9");
        three.refuses(Due.STATE, "wish 4 0 9", "wish 1 0 9", "wish 0 0 9").is(1, "wish 4 1 9");
        three.then("pass 1").refuses(Due.STATE, "wish 4 0 9").then("pass 5").is(3, "wish 4 0 9");
        Story.after("take 0 1").refuses(Due.STATE, "wish 0 0 9").then("pass 1").refuses(Due.STATE, "wish 0 0 9")
            .then("pass 5").is(0, "wish 0 0 9");
        two.refuses(Due.STATE, "wish 1 0 9", "wish 2 0 9").is(1, "wish 1 1 9").then("unwish 1 0").is(2, "wish 1 0 9");
        two.then("giveBack 0 0 0").refuses(Due.STATE, "wish 1 0 9", "wish 2 0 9").is(2, "wish 0 0 9");
    }

    private static void unwish() {
        Story three = Story.after("take 0 9, wish 3 0 13, wish 1 0 11, wish 2 0 12");
        Story.on("5", "Takes a wish that waits back.");
        three.then("unwish 3 0").is(2, "number 0 5").is(1, "number 0 6").is(11, "number 0 7").is(0, "holder 3 2");
        three.then("unwish 1 0").is(3, "number 0 6").is(0, "holder 1 2").then("giveBack 0 0 0, giveBack 3 0 0")
            .is(2, "number 0 1")
            .is(12, "number 0 3");
        three.then("unwish 2 0").is(3, "number 0 6").is(13, "number 0 7").is(0, "holder 2 2")
            .then("giveBack 0 0 0, giveBack 3 0 0")
            .is(1, "number 0 1").is(0, "number 0 5");
        three.then("unwish 1 0").is(0, "count 9").is(0, "holder 1 6").then("unwish 3 0, unwish 2 0, giveBack 0 0 0")
            .is(FREE, "number 0 0");
        Story.after("takeSpan 0 2 9, wish 1 0 9, wish 1 1 9, unwish 1 0").is(0, "number 0 5").is(1, "number 1 5");

        Story.on("5", "Undoable.");
        three.undoes("unwish 1 0");

        Story.on("5", "- `holder`: 0 to 7");
        Story both = Story.after("take 1 9, wish 0 0 9, wish 7 0 8");
        both.then("unwish 0 0").is(7, "number 0 6").is(0, "holder 0 2");
        both.then("unwish 7 0").is(0, "number 0 6").is(0, "holder 7 2");
        both.refuses(Due.INDEX, "unwish -1 0", "unwish 8 0");

        Story.on("5", "- `number`: a number of the pool");
        for (int size : new int[] {4, 32, 64}) {
            String last = "" + (size - 1);
            Story ends = Story.after("set 3 " + size + ", wish 0 0 9, wish 0 " + last + " 9, wish 1 0 9, wish 1 " + last + " 9");
            ends.is(0, "unwish 1 0").is(0, "unwish 1 " + last).refuses(Due.INDEX, "unwish 1 -1", "unwish 1 " + size);
        }

        Story end = Story.after("set 3 64, wish 0 63 9, wish 1 63 1, wish 2 63 2, wish 3 63 3").is(2, "unwish 3 63");
        end.does(2, "unwish 1 63").is(2, "number 63 6").does(1, "unwish 2 63").is(3, "number 63 6").is(0, "unwish 3 63");

        Story.on("5", "Returns how many wishes wait for it then.");
        three.does(2, "unwish 2 0").does(1, "unwish 3 0").does(0, "unwish 1 0").is(0, "count 4");
        Story.after("takeSpan 0 2 9, wish 1 0 9, wish 1 1 9").is(0, "unwish 1 0");

        Story.on("5", "Throws `IndexOutOfBoundsException` if there is no such holder or number");
        noHolder(three, "unwish # 0");
        noNumber(three, "unwish 1 #");

        Story.on("5", "Throws `IllegalStateException` if no wish of the holder waits for it");
        three.refuses(Due.STATE, "unwish 0 0", "unwish 4 0", "unwish 1 1");
        three.then("unwish 1 0").refuses(Due.STATE, "unwish 1 0");
        three.then("giveBack 0 0 0").refuses(Due.STATE, "unwish 3 0").is(1, "unwish 1 0");
        three.then("takeSpan 1 1 9, set 1 1, giveBack 0 0 0, giveBack 3 0 0").is(2, "number 0 1")
            .refuses(Due.STATE, "unwish 1 0");
        Story.after("wish 1 0 9").refuses(Due.STATE, "unwish 1 0", "unwish 1 5");
    }

    private static void renew() {
        Story.on("6", "Renews a lease, held or in grace: it is held, its end is the time plus the term, "
            + "its last moment as for a new lease;");
        Story held = Story.after("take 3 9, pass 8, set 0 7, renew 3 0 4");
        held.is(HELD, "number 0 0").is(12, "number 0 3").is(19, "number 0 4").is(3, "number 0 1").is(1, "count 6")
            .is(0, "count 7");
        Story first = Story.after("take 3 9, pass 9, set 0 0, renew 3 0 4");
        first.is(HELD, "number 0 0").is(13, "number 0 3").is(13, "number 0 4").is(1, "count 6").is(1, "count 7");
        Story last = Story.after("take 3 9, pass 13, renew 3 0 999");
        last.is(HELD, "number 0 0").is(1012, "number 0 3").is(1017, "number 0 4").is(1, "count 6").is(1, "count 7");
        last.then("pass 99").is(HELD, "number 0 0").is(9 + 99, "holder 3 7");
        Story.after("take 3 90, renew 3 0 1").is(1, "number 0 3").is(6, "number 0 4").then("pass 1").is(IN_GRACE, "number 0 0")
            .then("pass 5").is(FREE, "number 0 0");
        Story.after("takeSpan 3 2 9, renew 3 1 4").is(9, "number 0 3").is(4, "number 1 3");
        Story.after("takeSpan 3 2 9, set 1 1").is(9, "renew 3 0 5");

        Story.on("6", "its begin stays.");
        Story.after("pass 2, take 3 9, pass 5, renew 3 0 4").is(2, "number 0 2").then("pass 6, renew 3 0 4").is(2, "number 0 2")
            .is(1, "number 0 8").is(1, "holder 3 5").is(1, "count 5");

        Story.on("6", "Undoable.");
        Story.after("take 3 9, pass 5").undoes("renew 3 0 4");
        Story.after("take 3 9, pass 10").undoes("renew 3 0 4");

        Story.on("6", "- `holder`: 0 to 7");
        Story.after("take 0 9, take 7 8").is(9, "renew 0 0 4").is(8, "renew 7 1 4").refuses(Due.INDEX, "renew -1 0 4",
            "renew 8 1 4");

        Story.on("6", "- `number`: a number of the pool");
        for (int size : new int[] {4, 32, 64}) {
            Story ends = Story.after("set 3 " + size + ", wish 0 0 9, wish 0 " + (size - 1) + " 8");
            ends.is(9, "renew 0 0 4").is(8, "renew 0 " + (size - 1) + " 4");
            ends.refuses(Due.INDEX, "renew 0 -1 4", "renew 0 " + size + " 4");
        }

        Story.on("6", "- `term`: 1 to 999");
        Story.after("take 0 9, pass 4, renew 0 0 1").is(5, "number 0 3");
        Story.after("take 0 9, pass 4, renew 0 0 999").is(1003, "number 0 3");
        Story.after("take 0 9, pass 4").refuses(Due.ARGUMENT, "renew 0 0 0", "renew 0 0 1000");

        Story.on("6", "Returns its end ahead of that.");
        Story.after("pass 2, take 0 9").does(11, "renew 0 0 50").does(52, "renew 0 0 1").then("pass 3").does(3, "renew 0 0 9")
            .is(14, "number 0 3");
    }

    private static void renewRefused() {
        Story some = Story.after("take 0 9, pass 2");
        Story.on("6", "Throws `IndexOutOfBoundsException` if there is no such holder or number");
        noHolder(some, "renew # 0 4");
        noNumber(some, "renew 0 # 4");

        Story.on("6", "Throws `IllegalArgumentException` if term is out of range");
        noTerm(some, "renew 0 0 #");
        noTerm(some.then("pass 8"), "renew 0 0 #");

        Story.on("6", "Throws `IllegalStateException` if the holder does not have it, or a wish waits for it and setting 2 is 1");
        some.refuses(Due.STATE, "renew 1 0 4", "renew 0 1 4").then("pass 8").refuses(Due.STATE, "renew 1 0 4")
            .is(9, "renew 0 0 4");
        some.then("pass 11").is(IN_GRACE, "number 0 0").is(9, "renew 0 0 4").then("pass 1").refuses(Due.STATE, "renew 0 0 4");
        some.then("giveBack 0 0 0").refuses(Due.STATE, "renew 0 0 4");
        some.then("wish 1 0 4").refuses(Due.STATE, "renew 1 0 4").is(9, "renew 0 0 4");
        Story barred = some.then("set 2 1").is(9, "renew 0 0 4").then("wish 1 0 4");
        barred.refuses(Due.STATE, "renew 0 0 4").then("pass 8").refuses(Due.STATE, "renew 0 0 4");
        barred.then("set 2 0").is(9, "renew 0 0 4");
        barred.then("unwish 1 0").is(9, "renew 0 0 4");
        barred.then("giveBack 0 0 0").is(6, "renew 1 0 9").then("take 0 3").is(5, "renew 0 1 9");
    }

    private static void giveBack() {
        Story.on("7", "Gives a span of numbers back: those of it that the holder has become free, by ascending numbers, "
            + "each with its wishes as told ahead of the next one.");
        Story three = Story.after("takeSpan 0 3 50, takeSpan 1 2 50, takeSpan 0 2 1, pass 1");
        Story back = three.then("giveBack 0 1 5");
        back.is(HELD, "number 0 0").is(FREE, "number 1 0").is(FREE, "number 2 0").is(HELD, "number 3 0").is(HELD, "number 4 0")
            .is(FREE, "number 5 0").is(IN_GRACE, "number 6 0").is(3, "count 8").is(1, "holder 0 0").is(1, "holder 0 1");
        // The first number that is given back takes the room of the wish for the second one.
        Story full = Story.after("takeSpan 0 3 50, wish 1 0 10, wish 1 1 20, wish 2 1 30, set 1 1, pass 4, giveBack 0 0 2");
        full.is(1, "number 0 1").is(2, "number 1 1").is(34, "number 1 3").is(FREE, "number 2 0").is(1, "holder 1 6")
            .is(3, "count 8");
        // Nothing that was given on in the call is given back in it.
        Story.after("takeSpan 0 2 50, wish 1 0 9, giveBack 0 0 1").is(1, "number 0 1").is(2, "count 8").is(1, "holder 1 0");

        Story.on("7", "Undoable.");
        three.undoes("giveBack 0 0 31");
        three.undoes("giveBack 7 0 31");
        three.then("wish 2 0 9").undoes("giveBack 0 0 0");

        Story.on("7", "- `holder`: 0 to 7");
        Story both = Story.after("takeSpan 0 2 9, takeSpan 7 3 9");
        both.is(2, "giveBack 0 0 31").is(3, "giveBack 7 0 31").refuses(Due.INDEX, "giveBack -1 0 31", "giveBack 8 0 31");

        Story.on("7", "- `from`: a number of the pool");
        for (int size : new int[] {4, 32, 64}) {
            String last = "" + (size - 1);
            Story ends = Story.after("set 3 " + size + ", wish 0 0 9, wish 0 " + last + " 9");
            ends.is(2, "giveBack 0 0 " + last).is(1, "giveBack 0 " + last + " " + last);
            ends.refuses(Due.INDEX, "giveBack 0 -1 " + last, "giveBack 0 " + size + " " + last);
        }

        Story.on("7", "- `to`: a number of the pool, at least from");
        for (int size : new int[] {4, 32, 64}) {
            Story ends = Story.after("set 3 " + size + ", wish 0 0 9, wish 0 " + (size - 1) + " 9");
            ends.is(1, "giveBack 0 0 0").is(1, "giveBack 0 0 " + (size - 2)).is(2, "giveBack 0 0 " + (size - 1));
            ends.is(0, "giveBack 0 1 1").refuses(Due.ARGUMENT, "giveBack 0 1 0").refuses(Due.INDEX, "giveBack 0 0 " + size);
        }

        Story.on("7", "Returns how many the holder has given back.");
        three.is(1, "giveBack 0 0 0").is(2, "giveBack 0 0 1").is(3, "giveBack 0 0 4").is(5, "giveBack 0 0 31");
        three.is(0, "giveBack 0 3 4").is(2, "giveBack 1 0 31").is(0, "giveBack 2 0 31").is(2, "giveBack 0 5 6");
        three.then("wish 2 0 9").does(5, "giveBack 0 0 31").does(0, "giveBack 0 0 31").is(1, "giveBack 2 0 31");

        Story.on("7", "Throws `IndexOutOfBoundsException` if there is no such holder or number");
        noHolder(both, "giveBack # 0 31");
        Story low = Story.after("takeSpan 0 2 9, take 7 9");
        noNumber(low, "giveBack 0 # 3");
        noNumber(low, "giveBack 0 0 #");
        noNumber(low, "giveBack 0 # #");

        Story.on("7", "Throws `IllegalArgumentException` if to is less than from");
        both.refuses(Due.ARGUMENT, "giveBack 0 1 0", "giveBack 0 31 30", "giveBack 0 31 0", "giveBack 7 4 3");
        both.is(1, "giveBack 0 1 1").is(1, "giveBack 7 4 4").is(1, "giveBack 0 1 2").is(0, "giveBack 0 31 31");
    }

    private static void pass() {
        Story.on("8", "Lets time pass.");
        Story.after("pass 1").is(1, "count 0").then("pass 98").is(99, "count 0");
        Story.after("take 0 3, pass 2").is(2, "holder 0 7").then("pass 2").is(3, "holder 0 7").is(4, "count 0");

        Story.on("8", "Undoable, as one call.");
        Story.after("take 0 3, wish 1 0 4").undoes("pass 50");
        Story.after("pass 99").is(1, "count 12").then("undo").is(0, "count 0").is(0, "count 12");

        Story.on("8", "- `by`: 1 to 99");
        Story.fresh().then("pass 1").is(1, "count 0");
        Story.fresh().then("pass 99").is(99, "count 0");
        Story.fresh().refuses(Due.ARGUMENT, "pass 0", "pass 100");

        Story.on("8", "Returns how many numbers become free in it, also those that are given on at once by wishes.");
        Story some = Story.after("takeSpan 0 3 4, takeSpan 1 2 6, take 2 6, giveBack 2 5 5");
        some.is(0, "pass 8").is(3, "pass 9").is(3, "pass 10").is(5, "pass 11").is(5, "pass 99");
        some.then("pass 9").is(0, "pass 1").is(2, "pass 2");
        Story given = some.then("wish 3 0 9, wish 3 1 9, wish 4 1 9");
        given.is(0, "pass 8").is(3, "pass 9").is(5, "pass 11").is(5, "pass 22").is(7, "pass 23").is(7, "pass 36")
            .is(8, "pass 37");
        Story.after("take 0 4, wish 3 0 2, wish 4 0 2").is(1, "pass 9").is(1, "pass 15").is(2, "pass 16").is(3, "pass 23");
        Story.after("take 0 4, take 3 99, wish 3 0 2, set 1 1").is(1, "pass 9").then("pass 9").is(FREE, "number 0 0");

        Story.on("8", "Throws `IllegalArgumentException` if by is out of range");
        Story.after("take 0 3").refusesEach(Due.ARGUMENT, "pass #", 0, -1, 100, Story.LEAST_INT, Story.MOST_INT);

        Story.on("8", "Throws `IllegalStateException` if the time would be above 9999");
        Story late = Story.fresh().times(100, "pass 99").then("take 0 3").is(9900, "count 0").is(1, "pass 99");
        late.then("pass 1").is(1, "pass 98").refuses(Due.STATE, "pass 99");
        late.then("pass 98").is(9998, "count 0").refuses(Due.STATE, "pass 2", "pass 99").does(0, "pass 1").is(9999, "count 0")
            .refuses(Due.STATE, "pass 1", "pass 99");
        late.then("pass 99").is(9999, "count 0").refuses(Due.STATE, "pass 1").then("undo").is(9900, "count 0").is(1, "pass 99");
    }

    private static void set() {
        Story.on("9", "Changes a setting.");
        Story changed = Story.after("set 0 7, set 1 20, set 2 1, set 3 40");
        changed.is(7, "setting 0").is(20, "setting 1").is(1, "setting 2").is(40, "setting 3");
        changed.then("set 1 21").is(7, "setting 0").is(21, "setting 1").is(1, "setting 2").is(40, "setting 3");

        Story.on("9", "Undoable.");
        for (int setting = 0; setting <= 3; setting++) {
            Story.after("take 0 9, pass 2").undoes("set " + setting + " " + (setting == 3 ? 9 : 1));
        }
        Story.fresh().undoes("set 0 5");

        Story.on("9", "- `setting`: 0 to 3");
        Story.after("set 0 50").is(50, "setting 0");
        Story.after("set 3 64").is(64, "setting 3");
        Story.fresh().refuses(Due.INDEX, "set -1 5", "set 4 5");

        Story.on("9", "- `value`: the new value");
        int[] least = {0, 1, 0, 4};
        int[] most = {50, 64, 1, 64};
        for (int k = 0; k <= 3; k++) {
            for (int value = least[k]; value <= most[k]; value++) {
                Story.after("set " + k + " " + value).is(value, "setting " + k);
            }
        }

        Story.on("9", "Returns the previous value.");
        int[] first = {5, 16, 0, 32};
        for (int k = 0; k <= 3; k++) {
            String set = "set " + k + " ";
            Story.fresh().does(first[k], set + most[k]).does(most[k], set + least[k]).does(least[k], set + least[k])
                .is(least[k], set + first[k]);
        }

        Story.on("9", "Throws `IndexOutOfBoundsException` if there is no such setting");
        Story.after("take 0 9").refusesEach(Due.INDEX, "set # 9", -1, 4, Story.LEAST_INT, Story.MOST_INT);

        Story.on("9", "Throws `IllegalArgumentException` if value is out of range");
        for (int k = 0; k <= 3; k++) {
            Story.fresh().does(first[k], "set " + k + " " + least[k]).is(least[k], "set " + k + " " + most[k]);
            String set = "set " + k + " #";
            Story.after("take 0 9").refusesEach(Due.ARGUMENT, set, least[k] - 1, most[k] + 1, Story.LEAST_INT, Story.MOST_INT);
        }

        Story.on("9", "Throws `IllegalStateException` if the pool would become smaller than a number that is not free, plus 1");
        Story nine = Story.after("wish 0 9 1, wish 0 4 1").refuses(Due.STATE, "set 3 9", "set 3 5", "set 3 4").is(32, "set 3 10");
        nine.then("pass 1").is(IN_GRACE, "number 9 0").refuses(Due.STATE, "set 3 9").is(32, "set 3 10");
        nine.then("pass 6").is(32, "set 3 9").is(32, "set 3 4");
        nine.then("giveBack 0 9 9").refuses(Due.STATE, "set 3 4").is(32, "set 3 5");
        nine.is(5, "set 0 9").is(16, "set 1 9").is(16, "set 1 1").is(0, "set 2 1");
        Story.after("wish 0 3 9").is(32, "set 3 4");
        Story.after("set 3 64, wish 0 63 9").refuses(Due.STATE, "set 3 63", "set 3 4").is(64, "set 3 64");
        nine.then("set 3 10").refuses(Due.STATE, "set 3 9").is(10, "set 3 64").does(10, "set 3 11").is(9, "count 1");
    }
}
