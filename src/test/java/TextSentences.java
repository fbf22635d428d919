/** The sentences of 'Input text' and of promises 10 to 14, each with calls that would answer otherwise if it was broken. */
final class TextSentences {
    private TextSentences() {
    }

    static void lookAtAll() {
        buffer();
        takeOrders();
        wishOrders();
        giveBackOrders();
        passOrders();
        numbersInOrders();
        reading();
        append();
        clearBuffer();
        firstError();
        run();
        runUpTo();
        runRefused();
        undo();
    }

    private static Story typed(String text) {
        return Story.after("type " + text);
    }

    /** The text has no syntax error, though it may break off. */
    private static void begins(String... texts) {
        for (String text : texts) {
            typed(text).is(text.length(), "firstError");
        }
    }

    /** The text has no syntax error, and is complete: run() does not throw. */
    private static void complete(String... texts) {
        begins(texts);
        for (String text : texts) {
            typed(text).then("run").is(0, "clearBuffer").is(1, "count 12");
        }
    }

    /** The text has no syntax error, but is not complete. */
    private static void breaksOff(String... texts) {
        begins(texts);
        for (String text : texts) {
            typed(text).refuses(Due.ARGUMENT, "run");
        }
    }

    /** The last character of the text is the first syntax error, and stays it with more characters behind it. */
    private static void wrongAtEnd(String... texts) {
        for (String text : texts) {
            typed(text).is(text.length() - 1, "firstError").refuses(Due.ARGUMENT, "run");
            typed(text + ";d1").is(text.length() - 1, "firstError").refuses(Due.ARGUMENT, "run");
        }
    }

    private static void buffer() {
        Story.on("Input text", "The buffer has at most 60 characters.");
        Story most = Story.fresh().times(58, "append 33").does(59, "append 126").does(60, "append 100");
        most.refuses(Due.STATE, "append 100").is(60, "clearBuffer").then("clearBuffer").is(1, "append 100");
        typed("d1;d1;d1;d1;d1;d1;d1;d1;d1;d1;d1;d1;d1;d1;d1;d1;d1;d1;d1;d11").is(60, "firstError").is(20, "run")
            .then("run").is(30, "count 0");
    }

    private static void takeOrders() {
        Story.on("Input text", "Orders as a text are one or more orders with \";\" between them: \"t\", the digit of a holder, 0 to 7, "
            + "\"*\", and a term (the least free number is taken);");
        complete("t0*1", "t7*99", "t3*5;t4*6", "t0*1;t0*1;t0*1", "d1;t0*1;d1");
        breaksOff("t", "t0", "t7", "t0*", "t0*1;", "t0*1;t", "t0*1;t1*2;");
        wrongAtEnd("t8", "t9", "t*", "tt", "t0t", "t00", "t01", "t0@", "t0:", "t0-", "t0;", "t0**", "t0*;", "t0*t", "T", "t0*1t",
            "t0*1,", "t0*1;;", "t0*1*", ";");
        Story gaps = Story.after("takeSpan 0 3 9, giveBack 0 1 1, type t6*7, run");
        gaps.is(6, "number 1 1").is(7, "number 1 3").is(1, "holder 6 0");
        typed("t0*1;t7*99").then("run").is(0, "number 0 1").is(1, "number 0 3").is(7, "number 1 1").is(99, "number 1 3");
    }

    private static void wishOrders() {
        Story.on("Input text", "\"w\", the digit of a holder, \"@\", a number, 0 to 63, \"*\", and a term (a wish);");
        complete("w0@0*1", "w7@63*99", "w3@9*9", "w3@10*10", "w3@59*1", "w3@60*1");
        breaksOff("w", "w0", "w7", "w0@", "w0@0", "w0@6", "w0@63", "w0@0*", "w0@63*");
        wrongAtEnd("w8", "w9", "w@", "w00", "w0*", "w0:", "w0@*", "w0@-", "w0@64", "w0@65", "w0@69", "w0@70", "w0@99", "w0@00",
            "w0@100", "w0@630", "w0@0@", "w0@0-", "w0@0;", "w0@6;", "w0@63;", "w0@0*;", "w0@0*x", "W");
        Story.after("set 3 64, type w0@0*1;w7@63*99;w5@0*7, run").is(0, "number 0 1").is(1, "number 0 3").is(7, "number 63 1")
            .is(99, "number 63 3").is(5, "number 0 6").is(7, "number 0 7");
    }

    private static void giveBackOrders() {
        Story.on("Input text", "\"g\", the digit of a holder, \":\", a number, 0 to 63, \"-\", and a number, 0 to 63, that is not less "
            + "(a span is given back);");
        complete("g0:0-0", "g7:63-63", "g0:0-63", "g3:9-9", "g3:9-10", "g3:10-10", "g3:10-63", "g3:5-6", "g3:20-29", "g3:29-30");
        breaksOff("g", "g0", "g7", "g0:", "g0:0", "g0:63", "g0:0-", "g0:63-", "g0:63-6", "g0:15-1", "g0:10-1", "g0:19-1",
            "g0:62-6");
        wrongAtEnd("g8", "g9", "g:", "g00", "g0@", "g0*", "g0-", "g0:-", "g0:64", "g0:70", "g0:00", "g0:0:", "g0:0*", "g0:0;",
            "g0:0--", "g0:0-64", "g0:0-70", "g0:0-00", "g0:0-;", "G");
        wrongAtEnd("g0:1-0", "g0:9-8", "g0:10-9", "g0:10-0", "g0:15-14", "g0:15-10", "g0:15-1;", "g0:20-1", "g0:63-62",
            "g0:63-6;",
            "g0:63-5", "g0:63-7", "g0:30-2", "g0:7-6;", "g0:7-7-", "g0:7-64", "g0:5-4;", "g0:60-5");
        begins("g0:15-15", "g0:15-16", "g0:15-2", "g0:15-6", "g0:7-7", "g0:7-10", "g0:7-1", "g0:1-63", "g0:62-63");
        wrongAtEnd("g0:15-7", "g0:15-9", "g0:15-64", "g0:7-1;", "g0:7-0");
        Story some = Story.after("takeSpan 0 4 9, takeSpan 3 2 9, type g0:1-4;g3:5-5, run");
        some.is(1, "number 0 0").is(0, "number 1 0").is(0, "number 3 0").is(1, "number 4 0").is(0, "number 5 0").is(4, "count 8");
    }

    private static void passOrders() {
        Story.on("Input text", "or \"d\" and how much time passes, 1 to 99.");
        complete("d1", "d9", "d10", "d99", "d1;d99");
        breaksOff("d", "d1;", "d1;d");
        wrongAtEnd("d0", "d100", "d990", "d;", "dd", "d*", "d1d", "d1*", "D");
        typed("d1").then("run").is(1, "count 0");
        typed("d99").then("run").is(99, "count 0");
        Story.after("take 0 3, type d7, run").is(2, "number 0 0").then("type d1, run").is(0, "number 0 0");
    }

    private static void numbersInOrders() {
        Story.on("Input text", "Terms are 1 to 99.");
        complete("t0*1", "t0*9", "t0*10", "t0*99", "w0@5*1", "w0@5*9", "w0@5*10", "w0@5*99");
        wrongAtEnd("t0*0", "t0*100", "t0*990", "t0*-", "w0@5*0", "w0@5*100", "w0@5*999");
        typed("t0*1;w1@5*99;w2@6*1;t3*99").then("run").is(1, "number 0 3").is(99, "number 5 3").is(1, "number 6 3")
            .is(99, "number 1 3");

        Story.on("Input text", "Numbers are without leading zeros.");
        complete("w0@0*1", "g0:0-0", "g0:0-10", "t0*10", "d10");
        wrongAtEnd("t0*0", "t00", "t01", "w00", "w01", "w0@00", "w0@01", "w0@09", "w0@5*0", "g00", "g0:00", "g0:07", "g0:0-00",
            "g0:0-07", "d0");
        typed("t0*01").is(3, "firstError").refuses(Due.ARGUMENT, "run");
        typed("w0@5*07").is(5, "firstError").refuses(Due.ARGUMENT, "run");
        typed("d01").is(1, "firstError").refuses(Due.ARGUMENT, "run");
    }

    private static void reading() {
        Story.on("Input text", "The buffer is read from left to right;");
        typed("x;y").is(0, "firstError");
        typed("d0;t9").is(1, "firstError");
        typed("d1;t9;x").is(4, "firstError");
        typed("1d").is(0, "firstError").refuses(Due.ARGUMENT, "run");
        typed("t1*2;w2@0*3;g1:0-0;d1").then("run").is(2, "number 0 1").is(1, "count 0").is(0, "number 0 2");
        typed("d1;g1:0-0;w2@0*3;t1*2").then("run").is(2, "number 0 1").is(1, "number 1 1").is(1, "number 0 2");

        Story.on("Input text", "a character is a syntax error if no orders as a text, of any length, begin with the characters "
            + "before it and this character.");
        for (int code = 33; code <= 126; code++) {
            String sign = "" + (char) code;
            typed(sign).is("twgd".contains(sign) ? 1 : 0, "firstError");
            typed("d1" + sign).is("0123456789;".contains(sign) ? 3 : 2, "firstError");
            typed("d12" + sign).is(sign.equals(";") ? 4 : 3, "firstError");
            typed("d12;" + sign).is("twgd".contains(sign) ? 5 : 4, "firstError");
            typed("t" + sign).is("01234567".contains(sign) ? 2 : 1, "firstError");
            typed("g0:15-1" + sign).is("56789".contains(sign) ? 8 : 7, "firstError");
            typed("g0:15-6" + sign).is("0123".contains(sign) ? 8 : 7, "firstError");
        }
        // Complete orders that begin with these characters are longer than the buffer.
        String long57 = "d11;d11;d11;d11;d11;d11;d11;d11;d11;d11;d11;d11;d11;d11;d";
        typed(long57 + "1;w").is(60, "firstError").refuses(Due.ARGUMENT, "run");
        typed(long57 + "11;").is(60, "firstError").refuses(Due.ARGUMENT, "run");
        typed(long57 + "1;x").is(59, "firstError").refuses(Due.ARGUMENT, "run");
        typed("d99;".repeat(13) + "g0:15-1").is(59, "firstError").then("append 52").is(59, "firstError");
        typed("d99;".repeat(13) + "g0:15-1").is(59, "firstError").then("append 53").is(60, "firstError").is(14, "run");
    }

    private static void append() {
        Story.on("10", "Appends a character to the buffer.");
        Story.after("append 100, append 57").is(2, "firstError").then("append 59, append 116").is(4, "firstError")
            .is(4, "clearBuffer");
        Story.after("append 100, append 57, run").is(9, "count 0");
        Story.after("append 57, append 100").is(0, "firstError");
        Story.after("append 100, append 57").endsAs(typed("d9")).is(0, "count 12");

        Story.on("10", "- `code`: the character code, 33 to 126");
        Story.fresh().is(1, "append 33").is(1, "append 126").refuses(Due.ARGUMENT, "append 32", "append 127");
        Story.fresh().then("append 33, append 126").is(2, "clearBuffer").is(0, "firstError");

        Story.on("10", "Returns the new length of the buffer.");
        Story text = Story.fresh();
        for (int length = 1; length <= 60; length++) {
            text = text.does(length, "append 100");
        }
        text.then("clearBuffer").is(1, "append 100");

        Story.on("10", "Throws `IllegalArgumentException` if code is not 33 to 126");
        for (int code : new int[] {32, 0, -1, 127, 128, 255, 100 + 256, 100 + 65536, Integer.MIN_VALUE, Integer.MAX_VALUE}) {
            typed("d1").refuses(Due.ARGUMENT, "append " + code);
        }

        Story.on("10", "Throws `IllegalStateException` if the buffer has 60 characters");
        Story full = Story.fresh().times(60, "append 100").refuses(Due.STATE, "append 33", "append 100", "append 126");
        Story.fresh().times(59, "append 100").is(60, "append 126");
        full.then("clearBuffer").is(1, "append 126");
    }

    private static void clearBuffer() {
        Story.on("11", "Clears the buffer.");
        typed("t0*1").then("clearBuffer").is(0, "firstError").is(0, "clearBuffer").endsAs(Story.fresh());
        typed("t0*1").then("clearBuffer, type d2").is(2, "firstError").is(1, "run");
        typed("x").then("clearBuffer, type d2, run").is(2, "count 0").is(1, "count 12");
        typed("x").then("clearBuffer").is(0, "count 12").refuses(Due.ARGUMENT, "run");

        Story.on("11", "Returns the length that it had.");
        Story.fresh().is(0, "clearBuffer");
        typed("t").is(1, "clearBuffer");
        typed("t0*1;d").is(6, "clearBuffer");
        Story.fresh().times(60, "append 126").is(60, "clearBuffer").then("clearBuffer").is(0, "clearBuffer");
    }

    private static void firstError() {
        Story.on("12", "Finds the first syntax error of the buffer.");
        typed("t0*1;x;x").is(5, "firstError");
        Story again = typed("t0*1;x;x").does(5, "firstError").does(5, "firstError").is(8, "clearBuffer");
        again.endsAs(typed("t0*1;x;x"));

        Story.on("12", "Returns the index of the first character that is a syntax error;");
        typed("x").is(0, "firstError");
        typed("tx").is(1, "firstError");
        typed("t0*1;").then("append 33").is(5, "firstError");
        Story.fresh().times(59, "append 100").is(1, "firstError");
        typed("d11;".repeat(14) + "d11").then("append 33").is(59, "firstError");

        Story.on("12", "the length of the buffer if there is none.");
        Story.fresh().is(0, "firstError");
        typed("t").is(1, "firstError");
        typed("t0*1").is(4, "firstError");
        typed("d11;".repeat(15)).is(60, "firstError");
    }

    private static void run() {
        Story.on("13", "Carries out the orders in the buffer as take(), wish(), giveBack() and pass() do, one after the other, "
            + "up to the first one whose method would throw an exception, and clears the buffer.");
        Story calls = Story.after("take 1 7, wish 2 0 8, wish 3 5 99, giveBack 1 0 31, pass 9").times(6, "set 0 5");
        typed("t1*7;w2@0*8;w3@5*99;g1:0-31;d9").then("run").times(6, "set 0 5").endsAs(calls);
        typed("t1*7;t2*8").then("run").is(0, "clearBuffer").is(0, "firstError").refuses(Due.ARGUMENT, "run");
        typed("d1;w0@32*1;d1").is(1, "run").then("run").is(1, "count 0").is(0, "clearBuffer");

        Story.on("13", "Undoable, as one call, also if none is carried out.");
        Story start = Story.after("take 0 9, pass 2");
        start.then("type t1*5;d3;w2@0*4, run").is(3, "count 12").is(2, "undo").then("undo").endsAs(start);
        start.then("type w0@0*4;d1, run").is(2, "count 0").is(3, "count 12").is(2, "undo").then("undo").endsAs(start);
        start.then("type w0@0*4").is(0, "run");
        Story.fresh().times(6, "pass 1").then("type d1, run").is(6, "count 12").times(6, "undo").is(1, "count 0");

        Story.on("13", "Returns how many are carried out.");
        typed("d1").is(1, "run");
        typed("d1;d1;t0*1").is(3, "run");
        typed("g0:5-6").is(1, "run");
        typed("w0@32*1").is(0, "run");
        typed("d1;w0@32*1").is(1, "run");
        typed("d1;d1;w0@32*1;d1").is(2, "run");
        typed("d1;".repeat(19) + "d11").is(20, "run");
    }

    private static void runUpTo() {
        Story pool = Story.after("set 3 10, takeSpan 0 2 9");
        pool.then("type d1;w1@9*1;d1").is(3, "run");
        pool.then("type d1;w1@10*1;d1").is(1, "run").then("run").is(1, "count 0");
        pool.then("type d1;w0@1*1;d1").is(1, "run");
        pool.then("type w1@1*1;w2@1*1;w1@1*1;d1").is(2, "run");
        pool.then("type w1@1*1;w2@1*1;w3@1*1;w4@1*1;d1").is(3, "run").then("run").is(0, "count 0");
        pool.then("type d1;g0:0-9;d1").is(3, "run");
        pool.then("type d1;g0:0-10;d1").is(1, "run").then("run").is(2, "holder 0 0");
        pool.then("type d1;g0:10-10;d1").is(1, "run");
        pool.then("type d1;g7:0-9;d1").is(3, "run");
        pool.then("set 1 3, type t0*1;t0*1;d1").is(1, "run").then("run").is(3, "holder 0 0");
        pool.then("set 1 3, type w0@5*1;w0@6*1;d1").is(1, "run");
        pool.then("set 3 4, type t1*1;t2*1;t3*1;d1").is(2, "run");
        Story late = Story.fresh().times(100, "pass 99");
        late.then("type d99").is(1, "run").then("run").is(9999, "count 0");
        late.then("type d50;d50;d1").is(1, "run").then("run").is(9950, "count 0");
        late.then("type d50;d49;d1").is(2, "run").then("run").is(9999, "count 0");
    }

    private static void runRefused() {
        Story.on("13", "Throws `IllegalArgumentException` if the buffer is not complete orders as a text");
        Story.fresh().refuses(Due.ARGUMENT, "run");
        for (String text : new String[] {"t", "t0", "t0*", "t0*1;", ";t0*1", "t0*1;;t0*1", "t0*1,t0*1", "t0*0", "t0*100",
            "t8*1", "w0@5",
            "w0@64*1", "g0:5", "g0:5-4", "g0:15-1", "d", "d0", "d100", "x", "d1;x", "d1;t0*1x", "d1;g0:15-1;d1"}) {
            Story start = Story.after("take 3 9, type " + text).refuses(Due.ARGUMENT, "run");
            start.is(text.length(), "clearBuffer").is(1, "count 12").is(0, "count 0");
        }
        typed("g0:15-1").then("append 53").is(1, "run");
    }

    private static void undo() {
        Story.on("14", "Restores the latest saved state, and drops it.");
        Story two = Story.after("take 0 9, pass 3, pass 4");
        two.then("undo").endsAs(Story.after("take 0 9, pass 3")).then("undo").endsAs(Story.after("take 0 9"));
        two.times(3, "undo").endsAs(Story.fresh());
        two.then("undo, pass 5").endsAs(Story.after("take 0 9, pass 3, pass 5"));
        two.then("undo").is(3, "count 0").is(2, "count 12").then("undo").is(0, "count 0").is(1, "count 12");

        Story.on("14", "Returns how many saved states are left.");
        two.does(2, "undo").does(1, "undo").does(0, "undo").is(0, "count 12");
        Story.fresh().times(9, "pass 1").is(5, "undo");

        Story.on("14", "Throws `IllegalStateException` if there is none");
        Story.fresh().refuses(Due.STATE, "undo").is(0, "count 12");
        Story.after("pass 1, undo").refuses(Due.STATE, "undo").then("pass 1").is(0, "undo");
        Story.fresh().times(9, "pass 1").times(6, "undo").refuses(Due.STATE, "undo").is(3, "count 0");
        typed("d1").refuses(Due.STATE, "undo").then("clearBuffer").refuses(Due.STATE, "undo");
    }
}
