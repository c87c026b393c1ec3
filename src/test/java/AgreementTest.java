import java.nio.charset.StandardCharsets;
import java.util.Random;

/**
 * Asks StillHouse and the plain house alike, in runs of up to 512 calls drawn from fixed seeds, and compares every
 * answer: each promise in all the company that it may have.
 */
public final class AgreementTest {
    private static final Due due = new Due("AgreementTest");
    private static final int CALLS = 512;
    /** The most calls that one step of a run makes. */
    private static final int STEP = 7;

    private final long seed;
    private final Random random;
    private final PackTexts texts;
    private final StillHouse x = new StillHouse();
    private final PlainHouse y = new PlainHouse();
    private int calls = 0;
    private boolean apart = false;

    private AgreementTest(long seed) {
        this.seed = seed;
        // Seeds that stand side by side would all draw the same number first.
        random = new Random(seed * 0x9E3779B97F4A7C15L);
        texts = new PackTexts(random);
    }

    public static void main(String[] args) {
        int runs = args.length > 0 ? Integer.parseInt(args[0]) : 2000;
        for (long seed = 0; seed < runs; seed++) {
            new AgreementTest(seed).run();
        }
        due.end();
    }

    private void run() {
        int packs = texts.small || random.nextInt(8) == 0 ? 30 : 1 + random.nextInt(6);
        for (int i = 0; i < packs && goesOn(); i++) {
            aPack();
            if (random.nextInt(6) == 0) {
                aCall();
            }
        }
        for (int i = 0; i < 1 + random.nextInt(4) && goesOn(); i++) {
            aMake();
        }
        while (goesOn()) {
            aCall();
        }
    }

    /** Behind the first answer that is not the same, the two houses are no longer alike. */
    private boolean goesOn() {
        return !apart && calls + STEP <= CALLS;
    }

    private void same(String call, long got, long want) {
        calls++;
        apart |= got != want;
        due.is("seed " + seed + ", call " + calls + ", " + call, got, want);
    }

    private void aPack() {
        String text = texts.next();
        byte[] bytes = text.getBytes(StandardCharsets.ISO_8859_1);
        if (calls + bytes.length / 8 + 3 + STEP > CALLS) {
            return;
        }
        for (int at = 0; at < bytes.length; at += 8) {
            int n = Math.min(8, bytes.length - at);
            long w = random.nextLong() << 8 * (n - 1) << 8;
            for (int i = 0; i < n; i++) {
                w |= (bytes[at + i] & 255L) << 8 * i;
            }
            same("feed(" + w + ", " + n + ")", x.feed(w, n), y.feed(w, n));
        }
        int answer = y.pack();
        same("pack() of " + text, x.pack(), answer);
        same("place() of " + text, x.place(), y.place());
        if (answer == 0) {
            texts.taken();
        }
    }

    private void aCall() {
        switch (random.nextInt(16)) {
            case 0: case 1: case 2: anAct(); break;
            case 3: case 4: aChange(); break;
            case 5: case 6: case 7: aQuestionOfActs(); break;
            case 8: case 9: case 10: case 11: aQuestionOfKinds(); break;
            case 12: case 13: aQuestionOfStores(); break;
            case 14: aSeldomCall(); break;
            default: same("found", x.found(-1 - calls % 4), y.found(-1 - calls % 4)); break;
        }
    }

    private void aMake() {
        int kind = random.nextInt(5) == 0 ? number(45) : y.count(0) - 1 - random.nextInt(Math.min(3, y.count(0)));
        int size = random.nextInt(4) == 0 ? 9995 + number(10) : number(300);
        same("make(" + kind + ", " + size + ")", x.make(kind, size), y.make(kind, size));
    }

    private void anAct() {
        int app = number(Math.max(1, y.count(2)));
        int a = random.nextInt(3) == 0 ? number(1000) : number(14);
        same("act(" + app + ", " + a + ")", x.act(app, a), y.act(app, a));
        for (int what = 0; what < 4; what++) {
            same("outcome(" + what + ")", x.outcome(what), y.outcome(what));
        }
        for (int what = 2; what < 4; what++) {
            same("apparatus(" + app + ", " + what + ")", x.apparatus(app, what), y.apparatus(app, what));
        }
    }

    private void aChange() {
        int app = number(Math.max(1, y.count(2)));
        int other = number(Math.max(1, y.count(2)));
        int n = random.nextInt(9) == 0 ? number(100002) : number(40);
        int heat = random.nextInt(6) == 0 ? 98000 + number(2002) : number(1000);
        switch (random.nextInt(4)) {
            case 0: case 1: same("charge(" + app + ", " + n + ", " + heat + ")", x.charge(app, n, heat), y.charge(app, n, heat));
                break;
            case 2: same("pour(" + app + ", " + other + ", " + n + ")", x.pour(app, other, n), y.pour(app, other, n)); break;
            default: same("undo()", x.undo(), y.undo()); break;
        }
    }

    private void aSeldomCall() {
        int i = number(3);
        switch (random.nextInt(5)) {
            case 0: same("retire(" + i + ")", x.retire(i), y.retire(i)); break;
            case 1: same("feed(7, " + i + ")", x.feed(7, i), y.feed(7, i));
                same("pack()", x.pack(), y.pack());
                break;
            case 2: same("feed(7, " + i * 3 + ")", x.feed(7, i * 3), y.feed(7, i * 3)); break;
            case 3: same("found(" + i + ")", x.found(i), y.found(i)); break;
            default: aMake(); break;
        }
        same("place()", x.place(), y.place());
    }

    private void aQuestionOfActs() {
        int i = number(Math.max(1, y.outcome(1)));
        int j = number(Math.max(1, y.outcome(2)));
        int what = number(3);
        same("ran(" + i + ", " + what + ")", x.ran(i, what), y.ran(i, what));
        same("said(" + j + ")", x.said(j), y.said(j));
        same("outcome(" + what + ")", x.outcome(what), y.outcome(what));
    }

    private void aQuestionOfKinds() {
        int k = number(y.count(0));
        int j = random.nextInt(3) == 0 ? number(y.count(0)) : aKindAbove(k);
        int hook = number(6);
        int what = number(5);
        boolean above = random.nextBoolean();
        switch (random.nextInt(5)) {
            case 0: same("kind(" + k + ", " + what + ")", x.kind(k, what), y.kind(k, what)); break;
            case 1: same("body(" + k + ", " + hook + ", " + what + ")", x.body(k, hook, what), y.body(k, hook, what)); break;
            case 2: same("overrides(" + k + ", " + hook + ", " + j + ")", x.overrides(k, hook, j), y.overrides(k, hook, j));
                break;
            case 3: same("chosen(" + j + ", " + hook + ", " + k + ")", x.chosen(j, hook, k), y.chosen(j, hook, k)); break;
            default: same("resolved(" + k + ", " + hook + ", " + above + ")", x.resolved(k, hook, above),
                y.resolved(k, hook, above));
                break;
        }
    }

    /** Some steps up from a kind, or the kind itself. */
    private int aKindAbove(int k) {
        int above = k;
        for (int i = random.nextInt(4); i > 0 && above > 0 && above < y.count(0); i--) {
            above = y.kind(above, 1);
        }
        return above;
    }

    private void aQuestionOfStores() {
        int i = number(Math.max(1, y.count(3)));
        int app = number(Math.max(1, y.count(2)));
        int what = number(7);
        same("all(" + what + ")", x.all(what), y.all(what));
        switch (random.nextInt(3)) {
            case 0: same("apparatus(" + app + ", " + what + ")", x.apparatus(app, what), y.apparatus(app, what)); break;
            case 1: same("record(" + i + ", " + what % 3 + ")", x.record(i, what % 3), y.record(i, what % 3)); break;
            default: same("count(" + what + ")", x.count(what), y.count(what)); break;
        }
    }

    /** Mostly 0 .. below - 1, now and then just beyond it or far away. */
    private int number(int below) {
        switch (random.nextInt(30)) {
            case 0: return -1;
            case 1: return below;
            case 2: return random.nextInt(5) == 0 ? random.nextInt() : below - 1;
            case 3: return random.nextInt(5) == 0 ? Integer.MIN_VALUE : 0;
            case 4: return random.nextInt(5) == 0 ? Integer.MAX_VALUE : 0;
            default: return random.nextInt(below);
        }
    }
}
