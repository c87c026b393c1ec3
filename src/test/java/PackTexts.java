import java.util.ArrayList;
import java.util.List;
import java.util.Random;

/** Draws texts of packs: most of them can be taken, some stand at a limit, some have a fault or are spoiled. */
final class PackTexts {
    private static final String[] HOOKS = {"check", "before", "step", "after", "note", "close"};
    private static final String[] PIECES = {"pack", "with", "kind", "under", "open", "guarded", "last", "check", "before",
        "step", "after", "note", "close", "up", "call", "say", "add", "take", "warm", "fail", "refuse", "less", "else",
        "try", "rescue", "a", "{", "}", ";", "0", "7", "999", "1000", "0000", "still", "house", "b", "abcdefgh",
        "abcdefghi", "?", "A", "\t", "\u0000", "\u007f", "\u00e9", "\u00ff"};

    private final Random random;
    private final List<String> kinds = new ArrayList<>(List.of("column", "pot", "still"));
    private final List<String> packs = new ArrayList<>(List.of("house"));
    private List<String> drawnKinds = new ArrayList<>();
    private String drawnPack = "";
    private final List<String> words = new ArrayList<>();
    private int names = 0;
    private int actionsLeft = 0;
    /** Whether the text is drawn so that its rights are seldom a fault. */
    private boolean careful = false;
    /** Texts so small that there is room for more packs or kinds than the house takes. */
    final boolean small;
    private final int mostKinds;
    private final int bodiesOfTwelve;
    /** Bodies that run many others, so that acts come to an end of ticks. */
    private final boolean dense;

    PackTexts(Random random) {
        this.random = random;
        small = random.nextInt(4) == 0;
        mostKinds = small ? 1 + 9 * random.nextInt(2) : 4;
        bodiesOfTwelve = small ? 0 : 4;
        dense = random.nextInt(4) == 0;
    }

    /** The text that was drawn latest has been taken: its kinds and its name can be used from here on. */
    void taken() {
        kinds.addAll(drawnKinds);
        packs.add(drawnPack);
    }

    String next() {
        draw();
        if (random.nextInt(6) == 0) {
            spoilWords();
        }
        String text = joined();
        if (random.nextInt(20) == 0 && !text.isEmpty()) {
            int at = random.nextInt(text.length());
            text = text.substring(0, at) + (char) random.nextInt(256) + text.substring(at + 1);
        }
        return random.nextInt(40) == 0 ? padded(text) : text;
    }

    private boolean rarely() {
        return random.nextInt(25) == 0;
    }

    private String oneOf(List<String> texts) {
        return texts.get(random.nextInt(texts.size()));
    }

    private void put(String... more) {
        put(List.of(more));
    }

    private void put(List<String> more) {
        words.addAll(more);
    }

    private String newName() {
        names++;
        String name = "" + (char) ('b' + names % 25) + (char) ('b' + names / 25 % 25);
        return rarely() ? name + "bcdefg" : name;
    }

    private void draw() {
        words.clear();
        careful = random.nextInt(3) > 0;
        drawnKinds = new ArrayList<>();
        drawnPack = random.nextInt(4) == 0 ? oneOf(packs) : newName();
        put("pack", drawnPack);
        if (random.nextInt(3) == 0) {
            put("with", rarely() ? newName() : oneOf(packs));
        }
        put("{");
        int many = rarely() ? 9 + random.nextInt(3) : mostKinds == 4 ? 1 + random.nextInt(4) : mostKinds;
        for (int i = 0; i < many; i++) {
            drawKind(many > 4 ? 1 : bodiesOfTwelve);
        }
        put("}");
    }

    private void drawKind(int bodies) {
        String name = rarely() && rarely() ? oneOf(kinds) : newName();
        List<String> there = new ArrayList<>(kinds);
        there.addAll(drawnKinds);
        // The newest ones more often, so that families grow deep.
        String above = random.nextInt(3) == 0 ? oneOf(there) : there.get(there.size() - 1);
        put("kind", name, "under", rarely() && rarely() ? newName() : above, "{");
        boolean deep = rarely();
        for (int hook = 0; hook < HOOKS.length; hook++) {
            if (random.nextInt(12) < (hook == 4 ? bodies * 2 : bodies)) {
                drawBody(hook, deep);
            }
        }
        if (random.nextInt(60) == 0) {
            drawBody(random.nextInt(HOOKS.length), false);
        }
        put("}");
        drawnKinds.add(name);
    }

    private void drawBody(int hook, boolean deep) {
        int right = random.nextInt(careful ? hook == 4 ? 4 : 1 : 12);
        put(right == 1 ? List.of() : right == 2 ? List.of("guarded") : List.of("open"));
        if (!careful && rarely()) {
            put(List.of("last"));
        }
        put(HOOKS[hook]);
        if (random.nextInt(dense ? 2 : 20) == 0) {
            drawCalls(hook);
            return;
        }
        if (hook == 0 && random.nextInt(4) == 0) {
            put("{");
            drawLateRefusal("a");
            put("}");
            return;
        }
        actionsLeft = rarely() ? 58 + random.nextInt(5) : random.nextInt(7);
        drawActions(hook, deep ? 7 : 3, actionsLeft > 10);
    }

    private void drawCalls(int hook) {
        put("{");
        for (int i = 3 + random.nextInt(17); i > 0; i--) {
            put(hook == 4 ? List.of("call", "step", ";") : List.of("up", ";"));
        }
        put("}");
    }

    private void drawActions(int hook, int deepest, boolean all) {
        put("{");
        int many = all ? actionsLeft : random.nextInt(5);
        for (int i = 0; i < many && actionsLeft > 0; i++) {
            actionsLeft--;
            drawAction(hook, deepest);
        }
        put("}");
    }

    private void drawAction(int hook, int deepest) {
        String n = random.nextInt(3) == 0 ? "a" : "" + random.nextInt(random.nextBoolean() ? 12 : 1000);
        switch (random.nextInt(12)) {
            case 0: put(hook == 4 && random.nextInt(4) > 0 ? List.of("say", "1", ";") : List.of("up", ";")); break;
            case 1:
            case 2: put("call", HOOKS[random.nextInt(random.nextInt(8) == 0 ? 6 : 4)], ";"); break;
            case 3: put("say", n, ";"); break;
            case 4: case 5: put("add", n, ";"); break;
            case 6: put("take", n, ";"); break;
            case 7: put("warm", n, ";"); break;
            case 8: put(hook == 0 || random.nextInt(60) == 0 ? "refuse" : "fail", n, ";"); break;
            default: drawBlocks(hook, deepest, n); break;
        }
    }

    private void drawBlocks(int hook, int deepest, String n) {
        if (deepest == 0) {
            put("say", "9", ";");
        } else if (hook == 0 && random.nextInt(3) == 0) {
            drawLateRefusal(n);
        } else if (random.nextBoolean()) {
            put("try");
            drawActions(hook, deepest - 1, deepest > 3);
            put("rescue");
            drawActions(hook, deepest - 1, false);
        } else {
            put("less", n);
            drawActions(hook, deepest - 1, deepest > 3);
            if (random.nextBoolean()) {
                put("else");
                drawActions(hook, deepest - 1, false);
            }
        }
    }

    /** Refuses only once the water has run out, which may be behind the template's check. */
    private void drawLateRefusal(String n) {
        put("try", "{", "take", "" + random.nextInt(12), ";", "}", "rescue", "{", "refuse", n, ";", "}");
    }

    private void spoilWords() {
        int at = random.nextInt(words.size());
        String piece = PIECES[random.nextInt(PIECES.length)];
        switch (random.nextInt(5)) {
            case 0: words.remove(at); break;
            case 1: words.set(at, piece); break;
            case 2: words.add(at, piece); break;
            case 3: words.add(at, oneOf(words)); break;
            default: words.subList(at, words.size()).clear(); break;
        }
    }

    /** Blanks where they are needed, and here and there where they are not; seldom one is missing. */
    private String joined() {
        StringBuilder text = new StringBuilder();
        for (String word : words) {
            boolean needed = text.length() > 0 && Character.isLetter(text.charAt(text.length() - 1))
                && Character.isLetter(word.charAt(0)) && random.nextInt(300) != 0;
            if (needed || random.nextInt(8) == 0) {
                text.append(random.nextBoolean() ? ' ' : '\n');
            }
            text.append(word);
        }
        return text.toString();
    }

    private String padded(String text) {
        StringBuilder longer = new StringBuilder(text);
        int length = 698 + random.nextInt(6);
        while (longer.length() < length) {
            longer.insert(random.nextBoolean() ? longer.length() : 0, random.nextInt(300) == 0 ? "?" : " ");
        }
        return longer.toString();
    }
}
