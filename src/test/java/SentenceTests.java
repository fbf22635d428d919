import java.io.IOException;
import java.nio.file.Files;
import java.nio.file.Path;
import java.util.LinkedHashSet;
import java.util.Set;

/** Each sentence of the document has its own calls, and none that is quoted by them stands there no more. */
public final class SentenceTests {
    private static final Path DOCUMENT = Path.of("../shared/DOC.md");
    /** Words that ask for nothing that a call could show. */
    private static final Set<String> WITHOUT_CALLS = Set.of(
        "What it is | Free numbers given on lease: the least free ones first, side by side if wished, terms that run out, "
            + "grace in which only the last holder can renew, numbers given back in spans, wishes for certain numbers that wait "
            + "in order, limits of holders, spans of free numbers, what would be, orders as texts with errors by place, and undo.",
        "What it is | what later calls answer is free.",
        "Terms | All numbers are integers, but for floats and doubles where told.",
        "Terms | Numbers, holders, time",
        "Exceptions | Ahead of the calls `take`, `takeSpan`, `wish`, `unwish`, `renew`, `giveBack`, `pass`, `set` "
            + "the interface says: ---- leases.",
        "Exceptions | Ahead of the calls `append`, `clearBuffer`, `firstError`, `run`, `undo` the interface says: ---- texts.");

    private SentenceTests() {
    }

    public static void main(String[] args) throws IOException {
        TermSentences.lookAtAll();
        LeaseSentences.lookAtAll();
        TextSentences.lookAtAll();
        LookSentences.lookAtAll();
        AheadSentences.lookAtAll();
        Story.endOfSentence();
        compareWithDocument();
        Due.end();
    }

    private static void compareWithDocument() throws IOException {
        Set<String> told = sentencesOfDocument();
        for (String sentence : told) {
            if (!Story.quoted().contains(sentence) && !WITHOUT_CALLS.contains(sentence)) {
                Due.wrong("no calls look at: " + sentence);
            }
        }
        for (String sentence : Story.quoted()) {
            if (!told.contains(sentence)) {
                Due.wrong("it does not stand in the document: " + sentence);
            }
        }
        System.out.println(Story.quoted().size() + " sentences of the document have calls of their own");
    }

    /** The sentences down to the last promise, each behind its heading, or the number of its promise. */
    private static Set<String> sentencesOfDocument() throws IOException {
        Set<String> sentences = new LinkedHashSet<>();
        String heading = "";
        boolean isCode = false;
        for (String line : Files.readAllLines(DOCUMENT)) {
            String text = line.trim();
            if (text.startsWith("```")) {
                isCode = !isCode;
            } else if (text.startsWith("#")) {
                heading = text.replaceFirst("^#+ ", "").replaceFirst("^Promise (\\d+):.*$", "$1");
            } else if (!isCode && !text.isEmpty() && !heading.equals("Not promised")) {
                String words = heading.matches("\\d+") ? text.replaceFirst("^`[^`]*`: ", "") : text;
                for (String sentence : words.split("(?<=[.;]) +")) {
                    sentences.add(heading + " | " + sentence);
                }
            }
        }
        return sentences;
    }
}
