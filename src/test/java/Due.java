import java.io.IOException;
import java.nio.charset.StandardCharsets;
import java.nio.file.Files;
import java.nio.file.Path;

/** Compares answers with those that are due, and ends a test with exit code 1 if one was wrong. */
final class Due {
    private static final Path DOCUMENT = Path.of("../shared/DOC.md");

    private final String test;
    private String sentence = "";
    private int sentences = 0;
    private int wrong = 0;
    private int asked = 0;

    Due(String test) {
        this.test = test;
    }

    void is(String call, long got, long want) {
        asked++;
        if (got != want) {
            wrong++;
            System.out.println(test + ": " + call + " answered " + got + ", due is " + want + sentence);
        }
    }

    /** What is asked from here on is asked for these words, which must stand in the document as they are here. */
    void sentence(String words) {
        sentences++;
        sentence = " (\"" + words + "\")";
        if (Files.exists(DOCUMENT)) {
            is("the document has the sentence", document().contains(words) ? 1 : 0, 1);
        }
    }

    private static String document() {
        try {
            return Files.readString(DOCUMENT).replaceAll("\\s+", " ");
        } catch (IOException e) {
            return "";
        }
    }

    /** A pack on a new house; '^' marks the place of the fault, and is not fed. */
    void fault(String marked, int number) {
        fault(new StillHouse(), marked, number);
    }

    void fault(StillHouse x, String marked, int number) {
        int kinds = x.count(0);
        int packs = x.count(1);
        int place = marked.indexOf('^');
        is(marked, pack(x, marked.replace("^", "")), number);
        is("place() of " + marked, x.place(), place);
        is("count(0) behind " + marked, x.count(0), kinds);
        is("count(1) behind " + marked, x.count(1), packs);
    }

    /** A pack without a fault. */
    void taken(StillHouse x, String text) {
        is(text, pack(x, text), 0);
        is("place() of " + text, x.place(), -1);
    }

    static int pack(StillHouse x, String text) {
        feed(x, text);
        return x.pack();
    }

    static int feed(StillHouse x, String text) {
        byte[] bytes = text.getBytes(StandardCharsets.ISO_8859_1);
        int answer = 0;
        for (int at = 0; at < bytes.length; at += 8) {
            int n = Math.min(8, bytes.length - at);
            long w = 0;
            for (int i = 0; i < n; i++) {
                w |= (bytes[at + i] & 255L) << (8 * i);
            }
            answer = x.feed(w, n);
        }
        return answer;
    }

    /** What the latest act told, and which bodies it ran (kind, hook and how many were under way). */
    void told(String call, StillHouse x, int... numbers) {
        is(call + " outcome(2)", x.outcome(2), numbers.length);
        for (int i = 0; i < numbers.length; i++) {
            is(call + " said(" + i + ")", x.said(i), numbers[i]);
        }
    }

    void ran(String call, StillHouse x, int... bodies) {
        is(call + " outcome(1)", x.outcome(1), bodies.length / 3);
        for (int i = 0; i < bodies.length; i++) {
            is(call + " ran(" + i / 3 + ", " + i % 3 + ")", x.ran(i / 3, i % 3), bodies[i]);
        }
    }

    void end() {
        String of = sentences == 0 ? "" : " of " + sentences + " sentences";
        System.out.println(test + ": " + asked + " answers" + of + ", " + wrong + " wrong");
        if (wrong != 0) {
            System.exit(1);
        }
    }
}
