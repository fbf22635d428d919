import java.util.ArrayList;
import java.util.LinkedHashSet;
import java.util.List;
import java.util.Set;

/**
 * A run of calls on a new object, written as a text: "take 0 5, pass 3, type t0*1;d2". It is told anew for each look, so
 * that a look, or a call that is refused, can be followed by calls that change the object. A story itself never changes.
 */
final class Story {
    static final int LEAST_INT = Integer.MIN_VALUE;
    static final int MOST_INT = Integer.MAX_VALUE;

    private static final Set<String> QUOTED = new LinkedHashSet<>();
    private static String sentence = "";
    private static int lookedAhead = -1;

    private final List<String> calls;

    private Story(List<String> calls) {
        this.calls = calls;
    }

    // ---- the sentence of the document that is looked at

    /** From here on a sentence of the document is looked at; the place is its heading, or the number of its promise. */
    static void on(String place, String words) {
        endOfSentence();
        sentence = place + " | " + words;
        lookedAhead = Due.looked();
        if (!QUOTED.add(sentence)) {
            Due.wrong("twice quoted: " + sentence);
        }
    }

    static void endOfSentence() {
        if (Due.looked() == lookedAhead) {
            Due.wrong("nothing is looked at for: " + sentence);
        }
        lookedAhead = -1;
    }

    static Set<String> quoted() {
        return QUOTED;
    }

    // ---- stories

    static Story fresh() {
        return new Story(new ArrayList<>());
    }

    static Story after(String text) {
        return fresh().then(text);
    }

    Story then(String text) {
        List<String> more = new ArrayList<>(calls);
        more.addAll(List.of(text.split(", ")));
        return new Story(more);
    }

    Story times(int many, String text) {
        Story story = this;
        for (int k = 0; k < many; k++) {
            story = story.then(text);
        }
        return story;
    }

    NumberLeases tell() {
        NumberLeases x = new NumberLeases();
        for (String call : calls) {
            try {
                make(x, call);
            } catch (RuntimeException e) {
                Due.wrong(sentence + " | " + this + ": " + call + " threw " + e);
                return x;
            }
        }
        return x;
    }

    @Override
    public String toString() {
        String text = String.join(", ", calls);
        return text.length() > 160 ? ".. " + text.substring(text.length() - 160) : text;
    }

    // ---- looks

    /** The call that comes next is due to answer this. */
    Story is(long want, String call) {
        NumberLeases x = tell();
        String label = sentence + " | " + this + " -> " + call;
        try {
            Due.is(label, want, make(x, call));
        } catch (RuntimeException e) {
            Due.wrong(label + " threw " + e + ", due is " + want);
        }
        return this;
    }

    /** The call that comes next is due to answer this, and the story goes on behind it. */
    Story does(long want, String call) {
        is(want, call);
        return then(call);
    }

    /** Each of the calls is due to throw just this, and to change nothing: neither what is seen, nor what comes later. */
    Story refuses(Class<? extends RuntimeException> want, String... refused) {
        for (String call : refused) {
            String label = sentence + " | " + this + " -> " + call;
            NumberLeases x = tell();
            NumberLeases y = tell();
            String got = thrown(x, call);
            Due.is(label + " " + got + ", due is " + want.getSimpleName(), 1, got.equals(want.getSimpleName()) ? 1 : 0);
            thrown(y, call);
            sameTrace(label + " changes nothing", undone(tell()), undone(x));
            sameTrace(label + " changes nothing", givenOn(tell()), givenOn(y));
        }
        return this;
    }

    /** The call is due to be refused with each of the values in the place of "#". */
    Story refusesEach(Class<? extends RuntimeException> want, String call, int... values) {
        for (int value : values) {
            refuses(want, call.replace("#", "" + value));
        }
        return this;
    }

    /** Both stories are due to come to the same state, saved states, buffer and waiting wishes among it. */
    Story endsAs(Story other) {
        String label = sentence + " | " + this + " ends as " + other;
        sameTrace(label, undone(other.tell()), undone(tell()));
        sameTrace(label, givenOn(other.tell()), givenOn(tell()));
        return this;
    }

    /** The call, which leaves the buffer alone, is due to save the state from before it, all of it. */
    Story undoes(String call) {
        long saves = tell().count(12);
        return then(call).is(saves + 1, "count 12").is(saves, "undo").then("undo").endsAs(this);
    }

    private static void sameTrace(String label, List<Long> want, List<Long> got) {
        Due.is(label, 1, want.equals(got) ? 1 : 0);
    }

    private static String thrown(NumberLeases x, String call) {
        try {
            return "answered " + make(x, call);
        } catch (RuntimeException e) {
            return e.getClass().getSimpleName();
        }
    }

    /** What is seen of an object, and of each of its saved states. */
    private static List<Long> undone(NumberLeases x) {
        List<Long> trace = new ArrayList<>();
        trace.add((long) x.firstError());
        trace.add(x.digest());
        for (int k = 0; k < 7 && x.count(12) > 0; k++) {
            trace.add((long) x.undo());
            trace.add(x.digest());
        }
        return trace;
    }

    /** What is seen when all numbers with wishes are given back, often enough that each of the wishes comes first. */
    private static List<Long> givenOn(NumberLeases x) {
        List<Long> trace = new ArrayList<>();
        x.set(1, 64);
        for (int n = 0; n < x.setting(3); n++) {
            for (int k = 0; k < 4 && x.number(n, 5) > 0; k++) {
                x.giveBack(x.number(n, 1), n, n);
                trace.add(x.digest());
            }
        }
        return trace;
    }

    // ---- calls

    static long make(NumberLeases x, String call) {
        String[] parts = call.split(" ");
        if (parts[0].equals("type")) {
            Due.type(x, parts[1]);
            return parts[1].length();
        }
        int[] a = new int[3];
        for (int k = 1; k < parts.length; k++) {
            a[k - 1] = Integer.parseInt(parts[k]);
        }
        return switch (parts[0]) {
            case "take" -> x.take(a[0], a[1]);
            case "takeSpan" -> x.takeSpan(a[0], a[1], a[2]);
            case "wish" -> x.wish(a[0], a[1], a[2]);
            case "unwish" -> x.unwish(a[0], a[1]);
            case "renew" -> x.renew(a[0], a[1], a[2]);
            case "giveBack" -> x.giveBack(a[0], a[1], a[2]);
            case "pass" -> x.pass(a[0]);
            case "set" -> x.set(a[0], a[1]);
            case "append" -> x.append(a[0]);
            case "clearBuffer" -> x.clearBuffer();
            case "firstError" -> x.firstError();
            case "run" -> x.run();
            case "undo" -> x.undo();
            case "number" -> x.number(a[0], a[1]);
            case "holder" -> x.holder(a[0], a[1]);
            case "span" -> x.span(a[0], a[1]);
            case "count" -> x.count(a[0]);
            case "setting" -> x.setting(a[0]);
            case "whoAfter" -> x.whoAfter(a[0], a[1]);
            case "freeIn" -> x.freeIn(a[0]);
            case "wishedIn" -> x.wishedIn(a[0], a[1]);
            case "fullness" -> x.fullness();
            case "scatter" -> x.scatter();
            case "meanHeld" -> Double.doubleToLongBits(x.meanHeld());
            case "digest" -> x.digest();
            default -> throw new AssertionError("no such call: " + call);
        };
    }
}
