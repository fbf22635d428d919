/** The sentences of promises 20 to 26, each with calls that would answer otherwise if it was broken. */
final class AheadSentences {
    private AheadSentences() {
    }

    static void lookAtAll() {
        whoAfter();
        freeIn();
        wishedIn();
        wishedInTime();
        wishedInNever();
        fullness();
        scatter();
        meanHeld();
        digest();
        digestOfEachPart();
    }

    private static void whoAfter() {
        // Number 0: holder 6 up to 7, holder 3 up to 17, holder 4 up to 27, then free.
        Story some = Story.after("take 6 2, take 6 90, wish 3 0 5, wish 4 0 5");
        Story.on("20", "Tells who would have a number.");
        some.is(6, "whoAfter 0 6").is(3, "whoAfter 0 7").is(3, "whoAfter 0 16").is(4, "whoAfter 0 17").is(4, "whoAfter 0 26")
            .is(-1, "whoAfter 0 27");
        for (int by = 0; by <= 30; by++) {
            int who = by < 7 ? 6 : by < 17 ? 3 : by < 27 ? 4 : -1;
            some.is(who, "whoAfter 0 " + by);
            (by == 0 ? some : some.then("pass " + by)).is(who, "number 0 1");
        }

        Story units = Story.after("set 0 0, take 0 1, wish 1 0 1, wish 2 0 1, wish 3 0 1");
        units.is(0, "whoAfter 0 0").is(1, "whoAfter 0 1").is(2, "whoAfter 0 2").is(3, "whoAfter 0 3").is(-1, "whoAfter 0 4");

        Story.on("20", "- `number`: a number of the pool");
        for (int size : new int[] {4, 32, 64}) {
            Story pool = Story.after("set 3 " + size + ", wish 1 " + (size - 1) + " 9, wish 2 0 8");
            pool.is(2, "whoAfter 0 3").is(1, "whoAfter " + (size - 1) + " 3");
            pool.refuses(Due.INDEX, "whoAfter -1 3", "whoAfter " + size + " 3");
        }

        Story.on("20", "- `by`: 0 to 500");
        Story late = Story.after("take 5 495").is(5, "whoAfter 0 0").is(5, "whoAfter 0 499").is(-1, "whoAfter 0 500");
        Story.after("take 5 496").is(5, "whoAfter 0 500").refuses(Due.ARGUMENT, "whoAfter 0 -1", "whoAfter 0 501");

        Story.on("20", "Returns who has it behind so much time;");
        some.is(6, "whoAfter 0 0").is(6, "whoAfter 0 2").is(3, "whoAfter 0 7").then("pass 7").is(3, "whoAfter 0 0")
            .is(4, "whoAfter 0 10");
        some.then("takeSpan 3 1 99, set 1 1").is(4, "whoAfter 0 7").then("set 0 0").is(4, "whoAfter 0 11")
            .is(-1, "whoAfter 0 12");

        Story.on("20", "NONE if it is free then.");
        Story.fresh().is(-1, "whoAfter 0 0").is(-1, "whoAfter 31 500");
        some.is(-1, "whoAfter 0 27").is(-1, "whoAfter 0 500").is(-1, "whoAfter 2 0").is(6, "whoAfter 1 94")
            .is(-1, "whoAfter 1 95");

        Story.on("20", "Throws `IndexOutOfBoundsException` if there is no such number");
        late.refusesEach(Due.INDEX, "whoAfter # 0", -1, 32, 63, 64, Story.LEAST_INT, Story.MOST_INT);
        late.then("set 3 4").refusesEach(Due.INDEX, "whoAfter # 501", -1, 4, 31);

        Story.on("20", "Throws `IllegalArgumentException` if by is out of range");
        late.refusesEach(Due.ARGUMENT, "whoAfter 0 #", -1, 501, Story.LEAST_INT, Story.MOST_INT);
        late.refusesEach(Due.ARGUMENT, "whoAfter 9 #", -1, 501);
    }

    private static void freeIn() {
        Story four = Story.after("set 3 4, take 0 5, take 1 10, takeSpan 2 2 495, wish 3 0 1");
        Story.on("21", "Tells when there would be so many free numbers.");
        four.is(15, "freeIn 1").then("pass 14").is(0, "count 1").is(1, "freeIn 1").then("pass 1").is(1, "count 1")
            .is(0, "freeIn 1");

        Story.on("21", "- `many`: 1 to 64");
        Story all = Story.after("set 3 64").is(0, "freeIn 1").is(0, "freeIn 64");
        all.refuses(Due.ARGUMENT, "freeIn 0", "freeIn 65");

        Story.on("21", "Returns in how much time, 0 to 500, there would be at least so many free numbers for the first time;");
        // At 10 number 0 is given on, at 15 number 1 is free, at 16 number 0, and at 500 the two others.
        four.is(15, "freeIn 1").is(16, "freeIn 2").is(500, "freeIn 3").is(500, "freeIn 4");
        four.then("pass 10").is(5, "freeIn 1").is(6, "freeIn 2").is(490, "freeIn 3");
        Story.fresh().is(0, "freeIn 32").then("take 0 1").is(0, "freeIn 31").is(6, "freeIn 32").then("pass 5").is(1, "freeIn 32")
            .then("pass 1").is(0, "freeIn 32");
        // One is free now, but not at the same time as the other: the first time counts.
        Story.after("set 0 0, set 3 4, takeSpan 0 2 3, wish 1 0 9, takeSpan 0 2 7").is(3, "freeIn 1").is(7, "freeIn 3")
            .is(12, "freeIn 4");

        Story.on("21", "NONE if there would not be within 500.");
        four.is(-1, "freeIn 5").is(-1, "freeIn 64").then("renew 2 2 496").is(500, "freeIn 3").is(-1, "freeIn 4");
        four.then("renew 2 2 496, pass 1").is(499, "freeIn 3").is(500, "freeIn 4");
        Story.fresh().is(-1, "freeIn 33").is(-1, "freeIn 64");
        Story.after("take 0 999").is(-1, "freeIn 32").is(0, "freeIn 31");

        Story.on("21", "Throws `IllegalArgumentException` if many is out of range");
        four.refusesEach(Due.ARGUMENT, "freeIn #", 0, -1, 65, Story.LEAST_INT, Story.MOST_INT);
        all.refusesEach(Due.ARGUMENT, "freeIn #", 0, 65);
    }

    private static void wishedIn() {
        Story some = Story.after("take 6 2, take 6 90, wish 3 0 5, wish 4 0 5");
        Story.on("22", "Tells what a wish would come to.");
        some.is(27, "wishedIn 1 0").is(95, "wishedIn 1 1").is(0, "wishedIn 1 2");
        some.then("wish 1 0 1, pass 26").is(4, "number 0 1").then("pass 1").is(1, "number 0 1");

        Story.on("22", "- `holder`: 0 to 7");
        some.is(27, "wishedIn 0 0").is(27, "wishedIn 7 0").refuses(Due.INDEX, "wishedIn -1 0", "wishedIn 8 0");
        Story.after("take 0 9, take 7 9").is(0, "wishedIn 0 0").is(14, "wishedIn 7 0").is(14, "wishedIn 0 1")
            .is(0, "wishedIn 7 1");

        Story.on("22", "- `number`: a number of the pool");
        for (int size : new int[] {4, 32, 64}) {
            Story pool = Story.after("set 3 " + size + ", wish 1 " + (size - 1) + " 9, wish 2 0 8");
            pool.is(13, "wishedIn 0 0").is(14, "wishedIn 0 " + (size - 1)).refuses(Due.INDEX, "wishedIn 0 -1",
                "wishedIn 0 " + size);
        }

        Story.on("22", "Throws `IndexOutOfBoundsException` if there is no such holder or number");
        some.refusesEach(Due.INDEX, "wishedIn # 0", -1, 8, Story.LEAST_INT, Story.MOST_INT);
        some.refusesEach(Due.INDEX, "wishedIn # 9", -1, 8);
        some.refusesEach(Due.INDEX, "wishedIn 1 #", -1, 32, 64, Story.LEAST_INT, Story.MOST_INT);
        some.then("set 3 4").refusesEach(Due.INDEX, "wishedIn 1 #", 4, 31);
        some.then("set 3 64").refusesEach(Due.INDEX, "wishedIn 1 #", -1, 64);
    }

    private static void wishedInTime() {
        Story.on("22", "Returns in how much time, 0 to 500, the holder would have the number for the first time, if it wished for it now, "
            + "for the term 1 (0 if it has it now, or if it is free, and it would be given);");
        Story.after("take 0 9").is(14, "wishedIn 1 0").then("pass 13").is(1, "wishedIn 1 0").then("pass 1").is(0, "wishedIn 1 0");
        Story.after("take 0 9, wish 1 0 30").is(14 + 35, "wishedIn 2 0").then("wish 2 0 3").is(14 + 35 + 8, "wishedIn 3 0");
        Story.after("take 0 495").is(500, "wishedIn 1 0").then("pass 1").is(499, "wishedIn 1 0");
        // It has the number now, held, in grace, also where wish() would throw for other reasons.
        Story has = Story.after("set 1 1, take 0 9, wish 1 0 1, wish 2 0 1, wish 3 0 1").is(0, "wishedIn 0 0");
        has.then("pass 9").is(0, "wishedIn 0 0").then("pass 4").is(0, "wishedIn 0 0");
        Story.fresh().is(0, "wishedIn 3 0").is(0, "wishedIn 3 31");
        Story.after("set 1 3, takeSpan 3 2 9").is(0, "wishedIn 3 9").then("take 3 9").is(-1, "wishedIn 3 9")
            .is(0, "wishedIn 2 9");
        // Another wish of the holder can take the room, or a lease that ends can make it.
        Story room = Story.after("set 1 1, take 0 10, take 1 9, take 2 20");
        room.is(15, "wishedIn 1 0").is(-1, "wishedIn 2 0").is(25, "wishedIn 1 2").is(25, "wishedIn 0 2");
        room.is(15, "wishedIn 3 0").then("wish 3 1 1").is(-1, "wishedIn 3 0");
        Story noGrace = Story.after("set 0 0, set 1 1, take 0 10, take 1 8").is(10, "wishedIn 3 0");
        noGrace.then("wish 3 1 1").is(10, "wishedIn 3 0");
        noGrace.then("wish 3 1 2").is(-1, "wishedIn 3 0");
        Story.after("set 0 0, take 0 3, wish 1 0 2").is(5, "wishedIn 2 0").does(2, "wish 2 0 1").is(2, "whoAfter 0 5")
            .is(-1, "whoAfter 0 6");
    }

    private static void wishedInNever() {
        Story.on("22", "NONE if it would not within 500, or if wish() would throw an exception and the holder does not have it.");
        Story.after("take 0 496").is(-1, "wishedIn 1 0").then("pass 1").is(500, "wishedIn 1 0");
        Story.after("take 0 999").is(-1, "wishedIn 1 0").is(0, "wishedIn 0 0");
        Story three = Story.after("take 0 9, wish 1 0 9, wish 2 0 9").is(42, "wishedIn 3 0").then("wish 3 0 9");
        three.is(-1, "wishedIn 4 0").is(-1, "wishedIn 7 0").is(0, "wishedIn 0 0");
        three.is(-1, "wishedIn 1 0").is(-1, "wishedIn 2 0").is(-1, "wishedIn 3 0");
        Story.after("take 0 9, wish 1 0 9").is(-1, "wishedIn 1 0").is(28, "wishedIn 2 0").then("unwish 1 0")
            .is(14, "wishedIn 1 0");
        Story.after("set 1 2, takeSpan 1 2 9").is(-1, "wishedIn 1 9").is(0, "wishedIn 1 1").is(0, "wishedIn 2 9");
        Story.after("takeSpan 1 3 9, set 1 2").is(-1, "wishedIn 1 9").then("set 1 4").is(0, "wishedIn 1 9");
        // The wish would be lost: the holder has no room when the number is looked at.
        Story.after("set 0 0, set 1 1, take 0 3, take 1 3").is(-1, "wishedIn 1 0").is(3, "wishedIn 0 1");
    }

    private static void fullness() {
        Story.on("23", "Returns how full the pool is.");
        Story some = Story.fresh().is(0, "fullness").then("take 0 9").is(Float.floatToIntBits(1.0f / 32.0f), "fullness");
        some.then("takeSpan 1 15 9").is(Float.floatToIntBits(0.5f), "fullness").then("giveBack 0 0 0")
            .is(Float.floatToIntBits(15.0f / 32.0f), "fullness");
        some.then("pass 9").is(Float.floatToIntBits(1.0f / 32.0f), "fullness").then("pass 5").is(0, "fullness");

        Story.on("23", "Returns the bits (as Float.floatToIntBits) of a float: the numbers that are not free, as a float, "
            + "divided by setting 3, as a float.");
        for (int size = 4; size <= 64; size++) {
            Story pool = Story.after("set 1 64, set 3 " + size).is(0, "fullness");
            for (int many = 1; many <= size; many++) {
                pool.then("takeSpan 0 " + many + " 9").is(Float.floatToIntBits((float) many / (float) size), "fullness");
            }
        }
    }

    private static void scatter() {
        Story.on("24", "Returns how scattered the free numbers are.");
        Story two = Story.fresh().is(0, "scatter").then("wish 0 16 9").is(Float.floatToIntBits(1.0f - 16.0f / 31.0f), "scatter");
        two.then("pass 9").is(Float.floatToIntBits(1.0f - 16.0f / 31.0f), "scatter").then("pass 5").is(0, "scatter");
        Story.after("take 0 9").is(0, "scatter");

        Story.on("24", "Returns the bits (as Float.floatToIntBits) of a float: 1.0f less a quotient: count(11), as a float, "
            + "divided by count(1), as a float;");
        for (int size = 4; size <= 64; size++) {
            Story pool = Story.after("set 3 " + size);
            for (int n = 0; n < size; n++) {
                float due = 1.0f - (float) Math.max(n, size - 1 - n) / (float) (size - 1);
                pool.then("wish 0 " + n + " 9").is(Float.floatToIntBits(due), "scatter");
            }
            Story gaps = Story.after("set 1 64, set 3 " + size + ", takeSpan 0 " + size + " 9");
            for (int n = 0; n < size; n += 2) {
                gaps = gaps.then("giveBack 0 " + n + " " + n);
                gaps.is(Float.floatToIntBits(1.0f - 1.0f / (float) (n / 2 + 1)), "scatter");
            }
        }

        Story.on("24", "the bits of 0.0f if count(1) is 0.");
        Story full = Story.after("set 3 4, takeSpan 0 4 9").is(0, "count 1").is(Float.floatToIntBits(0.0f), "scatter");
        full.then("pass 9").is(0, "scatter").then("giveBack 0 0 0, giveBack 0 2 2").is(Float.floatToIntBits(0.5f), "scatter");
    }

    private static void meanHeld() {
        Story.on("25", "Returns how long numbers are held.");
        Story.after("take 0 3, pass 9").is(Double.doubleToLongBits(3.0), "meanHeld");
        Story.after("take 0 3, pass 2").is(Double.doubleToLongBits(2.0), "meanHeld").then("giveBack 0 0 0, pass 9")
            .is(Double.doubleToLongBits(2.0), "meanHeld");

        Story.on("25", "Returns the sum of what holder() tells for 7 over all holders, as a double, divided by count(5), as a double;");
        Story three = Story.after("take 0 3, take 7 7, take 4 9, pass 20").is(Double.doubleToLongBits(19.0 / 3.0), "meanHeld");
        three.then("takeSpan 5 4 9").is(Double.doubleToLongBits(19.0 / 7.0), "meanHeld").then("pass 1")
            .is(Double.doubleToLongBits(23.0 / 7.0), "meanHeld");
        three.then("undo").is(Double.doubleToLongBits(0.0), "meanHeld");
        Story.after("take 0 9, wish 1 0 3, pass 99").is(Double.doubleToLongBits(12.0 / 2.0), "meanHeld");
        Story.after("take 0 9, renew 0 0 10, pass 99").is(Double.doubleToLongBits(10.0), "meanHeld");
        for (int many = 1; many <= 16; many++) {
            for (int term = 1; term <= 12; term++) {
                Story.after("takeSpan 3 " + many + " 1, take 2 " + (7 * term) + ", pass 99")
                    .is(Double.doubleToLongBits((double) (many + 7 * term) / (double) (many + 1)), "meanHeld");
            }
        }

        Story.on("25", "0.0 if that is 0.");
        Story.fresh().is(Double.doubleToLongBits(0.0), "meanHeld").then("pass 9").is(Double.doubleToLongBits(0.0), "meanHeld");
        Story.after("take 0 9").is(Double.doubleToLongBits(0.0), "meanHeld").then("undo").is(Double.doubleToLongBits(0.0),
            "meanHeld");
    }

    // ---- the digest

    /** The hash of a row of values that goes on from a hash. */
    private static long hash(long start, long... values) {
        long hash = start;
        for (long value : values) {
            hash = 31 * hash + value;
        }
        return hash;
    }

    /** The document's list over the answers of new tellings of the story, none of which has more than 512 calls. */
    private static long digestOf(Story story, String buffer) {
        NumberLeases x = story.tell();
        long hash = 2579;
        for (int what = 0; what <= 12; what++) {
            hash = hash(hash, x.count(what));
        }
        hash = hash(hash, x.setting(0), x.setting(1), x.setting(2), x.setting(3));
        for (int n = 0; n < x.setting(3); n++) {
            NumberLeases y = story.tell();
            for (int what = 0; what <= 8; what++) {
                hash = hash(hash, y.number(n, what));
            }
        }
        for (int holder = 0; holder <= 7; holder++) {
            for (int what = 0; what <= 7; what++) {
                hash = hash(hash, x.holder(holder, what));
            }
            hash = hash(hash, x.wishedIn(holder, 0));
        }
        for (int k = 0; k < x.count(10); k++) {
            hash = hash(hash, x.span(k, 0), x.span(k, 1));
        }
        hash = hash(hash, x.whoAfter(0, 20), x.freeIn(4), x.fullness(), x.scatter(), Double.doubleToLongBits(x.meanHeld()));
        hash = hash(hash, buffer.length());
        for (char code : buffer.toCharArray()) {
            hash = hash(hash, code);
        }
        return hash;
    }

    private static void digestIsDue(Story... stories) {
        for (Story story : stories) {
            story.is(digestOf(story, ""), "digest");
        }
    }

    private static void digest() {
        long fresh = freshDigest();
        Story.on("26", "Computes a hash of the whole state.");
        Story.fresh().is(fresh, "digest");
        digestIsDue(Story.fresh(), TermSentences.rich(), TermSentences.rich().then("pass 40"), TermSentences.rich()
            .then("set 3 64"));

        Story.on("26", "The hash starts at 2579.");
        Story.fresh().is(fresh, "digest");
        Story.after("set 3 4").is(digestOf(Story.after("set 3 4"), ""), "digest");

        Story.on("26", "For each value v of the following list, in order, the hash becomes 31 * hash + v, "
            + "in long arithmetic with overflow.");
        Story.after("type !").is(hash(fresh + 1, 33), "digest");
        Story.after("type !~").is(hash(fresh + 2, 33, 126), "digest");
        Story.after("type ~!d").is(hash(fresh + 3, 126, 33, 100), "digest");

        Story.on("26", "Returns the hash.");
        Story.fresh().does(fresh, "digest").is(fresh, "digest");
    }

    /** The digest of a new object from the document's list alone. */
    private static long freshDigest() {
        long hash = hash(2579, 0, 32, 0, 0, 0, 0, 0, 0, 0, 0, 1, 32, 0);
        hash = hash(hash, 5, 16, 0, 32);
        for (int n = 0; n < 32; n++) {
            hash = hash(hash, 0, -1, -1, -1, -1, 0, -1, -1, 0);
        }
        for (int holder = 0; holder <= 7; holder++) {
            hash = hash(hash, 0, 0, 0, -1, -1, 0, 0, 0, 0);
        }
        return hash(hash, 0, 32, -1, 0, 0, 0, 0, 0);
    }

    private static void digestOfEachPart() {
        Story.on("26", "The values are: count(0) to count(12);");
        digestIsDue(Story.after("pass 7"), Story.after("takeSpan 0 3 1, pass 1, take 1 9"), Story.after("take 0 9, wish 1 0 9"),
            Story.after("take 0 9, renew 0 0 5, pass 5, renew 0 0 5"), Story.after("take 0 9, giveBack 0 0 0"),
            Story.after("take 0 9, take 1 9, wish 1 0 9, set 1 1, giveBack 0 0 0"), Story.fresh().times(9, "pass 1"));

        Story.on("26", "the settings 0 to 3;");
        digestIsDue(Story.after("set 0 50"), Story.after("set 1 64"), Story.after("set 2 1"), Story.after("set 3 64"));

        Story.on("26", "for each number of the pool its properties 0 to 8;");
        digestIsDue(Story.after("pass 3, wish 2 31 9, wish 5 31 4, wish 4 31 7"), Story.after("set 3 64, wish 2 63 9"),
            Story.after("set 3 4, wish 2 3 1, pass 1"), Story.after("wish 2 9 1, giveBack 2 9 9, wish 2 9 1"));

        Story.on("26", "for each holder the properties 0 to 7, and wishedIn for the number 0;");
        digestIsDue(Story.after("take 0 9, take 7 9, wish 7 0 3, pass 3"),
            Story.after("takeSpan 3 3 2, pass 2, take 3 9, pass 1"),
            Story.after("set 1 1, wish 5 9 9"), Story.after("take 0 9, wish 1 0 2, wish 2 0 3, wish 3 0 4"),
            Story.after("take 6 496"), Story.after("take 6 495"));

        Story.on("26", "for each span its properties 0 and 1;");
        digestIsDue(Story.after("set 3 12, takeSpan 0 12 1, giveBack 0 0 0, giveBack 0 3 5, giveBack 0 7 8, giveBack 0 11 11"),
            Story.after("set 3 4, takeSpan 0 4 9"), Story.after("wish 0 31 9"), Story.after("wish 0 30 9"));

        Story.on("26", "whoAfter for the number 0 and 20;");
        digestIsDue(Story.after("take 5 14"), Story.after("take 5 15"), Story.after("take 5 16"),
            Story.after("take 5 15, wish 2 0 1"),
            Story.after("take 5 14, wish 2 0 1"), Story.after("take 5 16, wish 2 0 1"));

        Story.on("26", "freeIn for 4;");
        digestIsDue(Story.after("set 3 5, take 0 1, take 0 2, take 0 3, take 0 4, take 0 5"),
            Story.after("set 3 4, takeSpan 0 4 9"),
            Story.after("set 3 4, takeSpan 0 4 496"), Story.after("set 3 6, take 0 1, take 0 2, take 0 3, take 0 4"));

        Story.on("26", "fullness;");
        digestIsDue(Story.after("set 3 7, takeSpan 0 3 9"), Story.after("set 3 9, takeSpan 0 9 9"),
            Story.after("set 3 49, take 0 9"));

        Story.on("26", "scatter;");
        digestIsDue(Story.after("wish 0 16 9"), Story.after("set 3 7, wish 0 1 9"), Story.after("set 3 4, takeSpan 0 4 9"));

        Story.on("26", "the bits of meanHeld (as Double.doubleToLongBits);");
        digestIsDue(Story.after("take 0 1, pass 1"), Story.after("takeSpan 0 3 9, pass 1, giveBack 0 0 1, pass 4"));
        for (int many = 1; many <= 16; many++) {
            for (int term = 1; term <= 12; term++) {
                digestIsDue(Story.after("set 3 17, takeSpan 3 " + many + " 1, take 2 " + (7 * term) + ", pass 99"));
            }
        }
        digestIsDue(Story.after("take 0 999, takeSpan 1 2 1").times(11, "pass 99"));

        Story.on("26", "the length of the buffer and each of its character codes.");
        Story rich = TermSentences.rich();
        rich.then("type t0*1;~!").is(digestOf(rich.then("type t0*1;~!"), "t0*1;~!"), "digest");
        String most = "d11;".repeat(15);
        rich.then("type " + most).is(digestOf(rich, most), "digest").then("clearBuffer").is(digestOf(rich, ""), "digest");
        rich.then("type t0*1").is(digestOf(rich, "t0*1"), "digest").then("run, undo").is(digestOf(rich, ""), "digest");
    }
}
