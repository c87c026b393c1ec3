import java.util.Random;

/**
 * Runs of calls drawn from fixed seeds. The answers are not known ahead, but some things must hold in every run:
 * nothing is thrown, a finding changes nothing but found(), water and heat add up, an act that was not done leaves
 * no trace, and undo() goes back to the very beginning.
 */
public final class RandomRunsTest {
    private static final Due due = new Due("RandomRunsTest");
    private static final String[] HOOKS = {"check", "before", "step", "after", "note", "close"};
    private static final String[] PIECES = {"pack", "with", "kind", "under", "open", "guarded", "last", "check", "step",
        "note", "up", "call", "say", "add", "fail", "refuse", "less", "else", "try", "rescue", "a", "{", "}", ";", "7",
        "1000", "still", "house", "b", "abcdefghi", "?", "\n", "\u00ff"};

    private final Random random;
    private final StillHouse x = new StillHouse();
    private int names = 0;

    private RandomRunsTest(long seed) {
        // Seeds that stand side by side would all draw the same number first.
        random = new Random(seed * 0x9E3779B97F4A7C15L);
    }

    public static void main(String[] args) {
        for (int seed = 0; seed < 4000; seed++) {
            new RandomRunsTest(seed).run(seed % 2 == 0);
        }
        due.end();
    }

    /** Either few changes, each looked at from all sides, or many: an object is used for 512 calls alone. */
    private void run(boolean closely) {
        for (int i = 0; i < 2; i++) {
            aPack();
            x.make(random.nextInt(x.count(0)), 100 + random.nextInt(200));
        }
        for (int i = 0; i < (closely ? 3 : 50); i++) {
            if (closely) {
                aChangeSeenClosely();
            } else {
                aChange();
            }
        }
        due.is("water adds up", x.all(0), x.all(1) + x.all(2) - x.all(3));
        due.is("heat adds up", x.all(4), x.all(5) + x.all(6));
        aQuestion();
        for (int records = x.count(3); records > 0; records--) {
            due.is("undo", x.undo(), records - 1);
        }
        for (int what = 0; what < 7; what++) {
            due.is("all is taken back", x.all(what), 0);
        }
        for (int app = 0; app < x.count(2); app++) {
            due.is("water is taken back", x.apparatus(app, 2), 0);
            due.is("heat is taken back", x.apparatus(app, 3), 0);
        }
    }

    private void aPack() {
        int kinds = x.count(0);
        String text = random.nextInt(5) == 0 ? rubble() : aPackText();
        int answer = Due.pack(x, text);
        due.is("a pack's answer: " + text, answer >= -3 && answer <= 7 && answer != -1 && answer != -2 ? 1 : 0, 1);
        due.is("a fault has a place: " + text, x.place() >= 0 ? 1 : 0, answer > 0 ? 1 : 0);
        due.is("a place is in the text: " + text, x.place() <= text.length() ? 1 : 0, 1);
        due.is("kinds come with 0 alone: " + text, x.count(0) > kinds ? 1 : 0, answer == 0 ? 1 : 0);
        due.is("the tape is empty", x.feed(32, 1), 1);
        due.is("a blank is no pack", x.pack(), 1);
        for (int k = kinds; k < x.count(0); k++) {
            templateIsChosen(k);
        }
    }

    /** The house's bodies, but note, may be seen by all: the lowest body is chosen and resolved alike. */
    private void templateIsChosen(int k) {
        for (int hook = 0; hook < 6; hook++) {
            int chosen = x.chosen(0, hook, k);
            due.is("chosen is there", x.body(chosen, hook, 0) >= 0 ? 1 : 0, 1);
            if (hook != 4) {
                due.is("chosen is resolved", x.resolved(k, hook, false), chosen);
            }
        }
    }

    private String rubble() {
        StringBuilder text = new StringBuilder(random.nextBoolean() ? "pack b { kind b under still { open step { " : "");
        for (int i = random.nextInt(40); i > 0; i--) {
            text.append(PIECES[random.nextInt(PIECES.length)]).append(random.nextInt(8) == 0 ? "" : " ");
        }
        return text.toString();
    }

    private String aPackText() {
        StringBuilder text = new StringBuilder("pack p");
        text.append(random.nextInt(3) == 0 ? " with house {" : " {");
        String above = random.nextInt(3) == 0 ? "pot" : "still";
        for (int i = random.nextInt(3); i >= 0; i--) {
            String name = "k" + (char) ('b' + names / 20) + (char) ('b' + names % 20);
            names++;
            text.append(" kind ").append(name).append(" under ").append(above).append(" {");
            for (int hook = 0; hook < 6; hook++) {
                if (random.nextInt(4) == 0) {
                    text.append(" open ").append(HOOKS[hook]).append(" {").append(actions(hook, 1)).append(" }");
                }
            }
            text.append(" }");
            above = random.nextBoolean() ? name : above;
        }
        return text.append(" }").toString();
    }

    private String actions(int hook, int depth) {
        StringBuilder text = new StringBuilder();
        for (int i = random.nextInt(4); i > 0; i--) {
            String n = random.nextBoolean() ? "a" : "" + random.nextInt(20);
            switch (random.nextInt(11)) {
                case 0: text.append(hook == 4 ? " say 1;" : " up;"); break;
                case 1: text.append(" call ").append(HOOKS[random.nextInt(4)]).append(";"); break;
                case 2: text.append(" say ").append(n).append(";"); break;
                case 3: case 4: text.append(" add ").append(n).append(";"); break;
                case 5: text.append(" take ").append(n).append(";"); break;
                case 6: text.append(" warm ").append(n).append(";"); break;
                case 7: text.append(hook == 0 ? " refuse " : " fail ").append(n).append(";"); break;
                default:
                    if (depth < 4) {
                        text.append(random.nextBoolean() ? " less " + n + " {" + actions(hook, depth + 1) + " } else {"
                            : " try {" + actions(hook, depth + 1) + " } rescue {");
                        text.append(actions(hook, depth + 1)).append(" }");
                    }
                    break;
            }
        }
        return text.toString();
    }

    private void aChangeSeenClosely() {
        String ahead = state();
        int records = x.count(3);
        int more = aChange();
        due.is("a record more or less", x.count(3), records + more);
        if (more == 0) {
            due.is("nothing changes", state().equals(ahead) ? 1 : 0, 1);
        }
    }

    /** How many records there should be more. */
    private int aChange() {
        switch (random.nextInt(6)) {
            case 0: return x.charge(number() % 4, number(), number()) >= 0 ? 1 : 0;
            case 1: return x.pour(number() % 4, number() % 4, number()) >= 0 ? 1 : 0;
            case 2: return x.undo() >= 0 ? -1 : 0;
            default: return x.act(number() % 4, number()) == 0 ? 1 : 0;
        }
    }

    private String state() {
        StringBuilder text = new StringBuilder();
        for (int app = 0; app < x.count(2); app++) {
            for (int what = 0; what < 4; what++) {
                text.append(x.apparatus(app, what)).append(' ');
            }
        }
        for (int what = 0; what < 7; what++) {
            text.append(x.all(what)).append(' ');
        }
        return text.append(x.count(0)).append(' ').append(x.count(1)).append(' ').append(x.count(3)).toString();
    }

    private void aQuestion() {
        int i = number();
        int j = number();
        int k = number();
        int beyond = x.found(-1);
        long answer;
        switch (random.nextInt(12)) {
            case 0: answer = x.kind(i, j); break;
            case 1: answer = x.body(i, j, k); break;
            case 2: answer = x.overrides(i, j, k); break;
            case 3: answer = x.chosen(i, j, k); break;
            case 4: answer = x.resolved(i, j, random.nextBoolean()); break;
            case 5: answer = x.outcome(i); break;
            case 6: answer = x.ran(i, j); break;
            case 7: answer = x.said(i); break;
            case 8: answer = x.apparatus(i, j); break;
            case 9: answer = x.record(i, j); break;
            case 10: answer = x.count(i); break;
            default: answer = x.all(i); break;
        }
        due.is("found counts BEYOND", x.found(-1), answer == -1 ? beyond + 1 : beyond);
    }

    private int number() {
        switch (random.nextInt(12)) {
            case 0: return random.nextInt();
            case 1: return -1 - random.nextInt(3);
            case 2: return Integer.MIN_VALUE;
            case 3: return Integer.MAX_VALUE;
            case 4: return random.nextInt(1001);
            default: return random.nextInt(8);
        }
    }
}
