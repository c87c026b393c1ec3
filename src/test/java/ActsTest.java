/** Promises 15 to 18: acts, what they tell, and how they end. */
public final class ActsTest {
    private static final Due due = new Due("ActsTest");

    public static void main(String[] args) {
        template();
        beyond();
        refusing();
        lateRefusals();
        failing();
        closing();
        failingChecks();
        waterAndHeat();
        choices();
        deepBlocks();
        upsAndCalls();
        spentByTicks();
        spentByBodies();
        numbersOfZero();
        due.end();
    }

    private static StillHouse house(String bodies) {
        StillHouse x = new StillHouse();
        due.taken(x, "pack p { kind b under still { " + bodies + " } }");
        due.is("make", x.make(3, 100), 0);
        due.is("charge", x.charge(0, 50, 1000), 50);
        return x;
    }

    private static void ends(StillHouse x, int a, int way, int number) {
        int records = x.count(3);
        int water = x.apparatus(0, 2);
        int heat = x.apparatus(0, 3);
        due.is("act(0, " + a + ")", x.act(0, a), way);
        due.is("outcome(0)", x.outcome(0), number);
        due.is("records", x.count(3), way == 0 ? records + 1 : records);
        if (way != 0) {
            due.is("water is as ahead", x.apparatus(0, 2), water);
            due.is("heat is as ahead", x.apparatus(0, 3), heat);
            due.is("water adds up", x.all(0), x.all(1) + x.all(2) - x.all(3));
            due.is("heat adds up", x.all(4), x.all(5) + x.all(6));
        }
    }

    private static void template() {
        StillHouse x = new StillHouse();
        for (int k = 0; k < 3; k++) {
            due.is("make", x.make(k, 10), k);
        }
        due.is("act", x.act(0, 0), 0);
        due.told("still", x, 0, 1, 2, 3, 4, 5);
        due.ran("still", x, 0, 0, 0, 0, 1, 0, 0, 2, 0, 0, 3, 0, 0, 4, 0, 0, 5, 0);
        due.is("ticks", x.outcome(3), 6);
        due.is("act", x.act(1, 999), 0);
        due.told("pot", x, 0, 1, 2, 3, 4, 14, 5);
        due.ran("pot", x, 0, 0, 0, 0, 1, 0, 0, 2, 0, 0, 3, 0, 1, 4, 0, 0, 4, 1, 0, 5, 0);
        due.is("ticks", x.outcome(3), 8);
        due.is("act", x.act(2, 5), 0);
        due.told("column", x, 0, 1, 2, 3, 4, 14, 5);
        due.ran("column", x, 0, 0, 0, 0, 1, 0, 2, 2, 0, 0, 2, 1, 0, 3, 0, 1, 4, 0, 0, 4, 1, 0, 5, 0);
        due.is("ticks", x.outcome(3), 10);
        due.is("water", x.apparatus(2, 2), 1);
        due.is("outcome", x.outcome(0), 0);
    }

    private static void beyond() {
        StillHouse x = new StillHouse();
        due.is("act", x.act(0, 0), -1);
        due.is("make", x.make(1, 10), 0);
        due.is("said", x.said(0), -1);
        due.is("ran", x.ran(0, 0), -1);
        due.is("act", x.act(0, 1), 0);
        due.is("act", x.act(0, -1), -1);
        due.is("act", x.act(0, 1000), -1);
        due.is("act", x.act(1, 0), -1);
        due.is("act", x.act(-1, 0), -1);
        due.is("the latest act stays", x.outcome(1), 7);
        due.is("outcome", x.outcome(4), -1);
        due.is("outcome", x.outcome(-1), -1);
        due.is("ran", x.ran(6, 1), 5);
        due.is("ran", x.ran(7, 1), -1);
        due.is("ran", x.ran(-1, 1), -1);
        due.is("ran", x.ran(0, 3), -1);
        due.is("ran", x.ran(0, -1), -1);
        due.is("said", x.said(6), 5);
        due.is("said", x.said(7), -1);
        due.is("said", x.said(-1), -1);
        due.is("found", x.found(-1), 15);
    }

    private static void refusing() {
        StillHouse x = house("open check { add 5; warm 5; less 10 { try { refuse a; } rescue { say 7; } } say 8; }"
            + " open close { say 9; }");
        ends(x, 9, 1, 9);
        due.told("refused", x);
        due.ran("refused: no close", x, 3, 0, 0);
        due.is("ticks", x.outcome(3), 5);
        ends(x, 10, 0, 0);
        due.told("done", x, 8, 1, 2, 3, 4, 9);
        due.is("water", x.apparatus(0, 2), 55);
        due.is("heat", x.apparatus(0, 3), 1005);
        // Called from a body of another hook, while the template's check is under way.
        x = house("open check { less 5 { call step; say 1; } } open step { try { call before; } rescue { } say 2; }");
        ends(x, 4, 0, 0);
        due.told("nothing is refused", x, 1, 2, 1, 1, 1, 2, 3, 4, 5);
        x = new StillHouse();
        due.taken(x, "pack p { kind b under still { open check { refuse a; } }"
            + " kind c under b { open check { call step; say 1; } open step { try { call close; } rescue { } say 2; }"
            + " open close { less 5 { call after; } } open after { less 5 { call note; } } note { say 3; } }"
            + " kind d under c { note { say 4; call before; } open before { say 6; } } }");
        due.is("make", x.make(5, 100), 0);
        ends(x, 1, 0, 0);
        due.told("calls within a check", x, 4, 6, 2, 1, 6, 4, 6, 2, 4, 6, 4, 4, 6);
        x = new StillHouse();
        due.taken(x, "pack p { kind b under still { open check { try { take 1; } rescue { refuse a; } call step; say 1; }"
            + " open step { try { call check; } rescue { say 2; } say 3; } } }");
        due.is("make", x.make(3, 100), 0);
        due.is("charge", x.charge(0, 2, 0), 2);
        ends(x, 44, 1, 44);
        due.told("a check within steps ends the check", x);
        due.ran("a check within steps ends the check", x, 3, 0, 0, 3, 2, 1, 3, 0, 2, 3, 2, 3, 3, 0, 4);
    }

    private static void lateRefusals() {
        // The check takes water, so that it refuses only when it is called once more.
        StillHouse x = new StillHouse();
        due.taken(x, "pack p { kind b under still { open check { try { take 1; } rescue { refuse 12; } }"
            + " open step { less 10 { call check; } else { try { call check; } rescue { say 66; } } } } }");
        due.is("make", x.make(3, 100), 0);
        ends(x, 5, 1, 12);
        due.is("charge", x.charge(0, 1, 0), 1);
        ends(x, 5, 2, 2012);
        due.ran("late refusal", x, 3, 0, 0, 0, 1, 0, 3, 2, 0, 3, 0, 1, 0, 5, 0);
        ends(x, 10, 0, 0);
        due.told("a late refusal is rescued", x, 1, 66, 3, 4, 5);
        due.is("water", x.apparatus(0, 2), 0);
        due.is("taken", x.all(3), 1);
        // From close, when all else is done.
        x = new StillHouse();
        due.taken(x, "pack p { kind b under still { open check { try { take 1; } rescue { refuse a; } }"
            + " open close { call check; } } }");
        due.is("make", x.make(3, 100), 0);
        due.is("charge", x.charge(0, 1, 0), 1);
        ends(x, 999, 2, 2999);
        due.is("charge", x.charge(0, 1, 0), 2);
        ends(x, 999, 0, 0);
    }

    private static void failing() {
        String[] hooks = {"before", "step", "after"};
        for (int i = 0; i < hooks.length; i++) {
            StillHouse x = house("open " + hooks[i] + " { add 3; warm 3; fail a; say 9; }");
            ends(x, 17, 2, 17);
            int[] told = new int[i + 2];
            for (int j = 0; j <= i; j++) {
                told[j] = j;
            }
            told[i + 1] = 5;
            due.told("failed " + hooks[i], x, told);
        }
        StillHouse x = new StillHouse();
        due.taken(x, "pack p with house { kind b under still { note { take 1; } } }");
        due.is("make", x.make(3, 1), 0);
        ends(x, 1, 2, 1000);
        due.told("failed note", x, 0, 1, 2, 3, 5);
    }

    private static void closing() {
        StillHouse x = house("open close { add 1; less 5 { fail 42; } up; }");
        ends(x, 1, 2, 42);
        ends(x, 5, 0, 0);
        due.is("water", x.apparatus(0, 2), 51);
        x = house("open step { less 5 { fail 41; } } open close { say 90; fail 42; }");
        ends(x, 1, 2, 41);
        due.told("closed once", x, 0, 1, 90);
        ends(x, 5, 2, 42);
        due.told("closed once", x, 0, 1, 3, 4, 90);
        x = house("open step { fail 41; } open close { try { fail 42; } rescue { say 91; } }");
        ends(x, 1, 2, 41);
        due.told("a rescued failure of close", x, 0, 1, 91);
        x = house("open step { try { fail 41; } rescue { say 1; } } open close { fail 42; }");
        ends(x, 1, 2, 42);
        x = house("open step { try { fail 41; } rescue { fail 43; } }");
        ends(x, 1, 2, 43);
    }

    private static void failingChecks() {
        StillHouse x = house("open check { add 1; less 5 { fail 8; } take 999; } open close { say 70; }");
        ends(x, 4, 2, 8);
        due.told("check failed: close alone", x, 70);
        due.ran("check failed: close alone", x, 3, 0, 0, 3, 5, 0);
        ends(x, 5, 2, 1000);
    }

    private static void waterAndHeat() {
        StillHouse x = house("open step { less 100 { add a; } else { less 200 { take a; } else { warm a; } } }");
        ends(x, 50, 0, 0);
        due.is("water", x.apparatus(0, 2), 100);
        ends(x, 1, 2, 1001);
        ends(x, 0, 0, 0);
        ends(x, 100, 0, 0);
        due.is("water", x.apparatus(0, 2), 0);
        ends(x, 101, 2, 1000);
        ends(x, 200, 0, 0);
        due.is("heat", x.apparatus(0, 3), 1200);
        due.is("charge", x.charge(0, 0, 98000), 0);
        ends(x, 801, 2, 1002);
        ends(x, 800, 0, 0);
        due.is("heat", x.apparatus(0, 3), 100000);
        due.is("added", x.all(2), 50);
        due.is("taken", x.all(3), 100);
        due.is("warmed", x.all(6), 1000);
        // What was done in a try stays, and counts.
        x = house("open step { try { add 1; take 2; warm 3; add 999; } rescue { add 10; } }");
        ends(x, 1, 0, 0);
        due.is("water", x.apparatus(0, 2), 59);
        due.is("added", x.all(2), 11);
        due.is("taken", x.all(3), 2);
        due.is("warmed", x.all(6), 3);
    }

    private static void choices() {
        StillHouse x = house("open step { less 5 { say 1; } else { say 2; } less a { say 3; } else { say 4; } less 6 { say 5; }"
            + " try { say 6; } rescue { say 7; } less 0 { } less 999 { say 8; } }");
        ends(x, 4, 0, 0);
        due.told("a = 4", x, 0, 1, 1, 4, 5, 6, 8, 3, 4, 5);
        due.is("ticks", x.outcome(3), 5 + 6 + 5);
        ends(x, 5, 0, 0);
        due.told("a = 5", x, 0, 1, 2, 4, 5, 6, 8, 3, 4, 5);
        ends(x, 6, 0, 0);
        due.told("a = 6", x, 0, 1, 2, 4, 6, 8, 3, 4, 5);
        ends(x, 999, 0, 0);
        due.told("a = 999", x, 0, 1, 2, 4, 6, 3, 4, 5);
        x = house("open step { try { try { fail 1; } rescue { say 31; fail 2; } say 32; } rescue { say 33; } say 34; }");
        ends(x, 0, 0, 0);
        due.told("tries within", x, 0, 1, 31, 33, 34, 3, 4, 5);
        x = house("open step { try { call before; say 35; } rescue { say 36; } } open before { say a; less 2 { fail 3; } }");
        ends(x, 2, 0, 0);
        ends(x, 1, 2, 3);
    }

    /** The innermost block that there may be is run, by each way into it. */
    private static void deepBlocks() {
        String[] ways = {"less 5 {", "less 1 { } else {", "try {", "try { fail 1; } rescue {"};
        int[] ticks = {5, 5, 5, 10};
        for (int i = 0; i < ways.length; i++) {
            String ends = i == 2 ? "} rescue { } " : "} ";
            StillHouse x = house("open step { " + ways[i].repeat(5) + " say 30; " + ends.repeat(5) + "}");
            ends(x, 3, 0, 0);
            due.told(ways[i], x, 0, 1, 30, 3, 4, 5);
            due.is("ticks of " + ways[i], x.outcome(3), 5 + ticks[i] + 1);
        }
    }

    private static void upsAndCalls() {
        StillHouse x = new StillHouse();
        due.taken(x, "pack p { kind b under still { note { say 20; } open step { call note; up; } } }");
        due.taken(x, "pack q { kind c under b { note { say 21; } open after { call note; call step; } } }");
        due.taken(x, "pack r with p { kind d under c { note { up; say 22; } } }");
        due.taken(x, "pack s with house { kind e under d { note { up; say 23; } } }");
        due.is("make", x.make(6, 10), 0);
        ends(x, 0, 0, 0);
        // The step's note is b's, for which d's stands; the after's is c's own; the template's is the house's.
        due.told("packages", x, 0, 1, 20, 22, 2, 21, 20, 22, 2, 4, 23, 5);
        due.ran("packages", x, 0, 0, 0, 0, 1, 0, 3, 2, 0, 5, 4, 1, 3, 4, 2, 0, 2, 1, 4, 3, 0, 4, 4, 1, 3, 2, 1, 5, 4, 2,
            3, 4, 3, 0, 2, 2, 6, 4, 0, 0, 4, 1, 0, 5, 0);
    }

    private static void spentByTicks() {
        // check 1, before 7 + 7 * 48 and those behind, step 1, after 48, note 1, close 1: 395 and those behind.
        StillHouse x = house("open before { " + "call after; ".repeat(7)
            + "try { add 1; } rescue { } say 1; less 9 { say 1; } less 5 { say 1; } } open after { "
            + "say 1; ".repeat(48) + "}");
        ends(x, 9, 0, 0);
        due.is("400 are not too many", x.outcome(3), 400);
        due.is("bodies", x.outcome(1), 13);
        due.is("told", x.outcome(2), 1 + 7 * 48 + 1 + 1 + 48 + 1 + 1);
        due.is("said", x.said(387), 4);
        due.is("said", x.said(388), 5);
        ends(x, 5, 3, 0);
        due.is("the 401st does not go by", x.outcome(3), 400);
        due.is("the close had begun", x.outcome(1), 13);
        due.is("the close had begun", x.ran(12, 1), 5);
        due.is("told", x.said(x.outcome(2) - 1), 4);
        ends(x, 4, 3, 0);
        due.is("no tick behind it", x.outcome(3), 400);
        due.is("no close behind it", x.outcome(1), 12);
        due.is("no close behind it", x.ran(11, 1), 4);
        // No rescue either.
        x = house("open before { try { " + "call after; ".repeat(9) + "} rescue { } } open after { "
            + "say 1; ".repeat(48) + "}");
        ends(x, 1, 3, 0);
        due.is("ticks", x.outcome(3), 400);
        due.is("bodies", x.outcome(1), 1 + 1 + 9);
    }

    private static void spentByBodies() {
        StillHouse x = house("open step { add 1; try { call step; } rescue { say 9; } } open close { say 8; }");
        ends(x, 1, 3, 0);
        due.told("no rescue, no close", x, 0, 1);
        due.is("bodies", x.outcome(1), 14);
        due.is("deepest", x.ran(13, 2), 11);
        due.is("ticks", x.outcome(3), 2 + 12 * 3);
        // Twelve under way are not too many.
        StringBuilder chain = new StringBuilder("pack p { ");
        String[] names = {"b", "c", "d", "e", "f", "g", "h", "i", "j", "k"};
        for (int i = 0; i < 10; i++) {
            chain.append("kind ").append(names[i]).append(" under ").append(i == 0 ? "still" : names[i - 1]);
            chain.append(" { open step { up; } } ");
        }
        x = new StillHouse();
        due.taken(x, chain + "}");
        due.taken(x, "pack q { kind l under k { open step { up; } } kind m under l { open step { up; } } }");
        due.is("make", x.make(13, 1), 0);
        due.is("make", x.make(14, 1), 1);
        ends(x, 0, 0, 0);
        due.is("deepest", x.ran(13, 2), 11);
        due.is("deepest", x.ran(13, 0), 0);
        due.is("one more", x.act(1, 0), 3);
        due.is("bodies", x.outcome(1), 14);
        due.is("ticks", x.outcome(3), 14);
    }

    private static void numbersOfZero() {
        StillHouse x = house("open check { less 5 { refuse 0; } } open step { less 6 { fail 0; } } open close { fail 3; }");
        ends(x, 4, 1, 0);
        ends(x, 5, 2, 0);
        ends(x, 6, 2, 3);
        x = house("open step { try { fail 0; } rescue { say 60; } }");
        ends(x, 6, 0, 0);
        due.told("rescued", x, 0, 1, 60, 3, 4, 5);
    }
}
