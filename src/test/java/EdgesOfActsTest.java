/** The boundary cases of acts, their actions and ticks (Terms 3; promises 15 to 18). */
public final class EdgesOfActsTest {
    private static final Due due = new Due("EdgesOfActsTest");
    private static final int DONE = 0;
    private static final int REFUSED = 1;
    private static final int FAILED = 2;
    private static final int SPENT = 3;
    private static final String[] HOOKS = {"check", "before", "step", "after", "note", "close"};
    private static final int[] FAR = {Integer.MIN_VALUE, -1000, -5, 1001, Integer.MAX_VALUE};

    public static void main(String[] args) {
        numbersOfActs();
        actBeyond();
        templateByChosen();
        refusedCheck();
        tillOneFails();
        failedCheck();
        closeOnEveryWay();
        firstFailureCounts();
        asAheadOfIt();
        asAheadOfAll();
        inTurn();
        upRunsTheBodyAbove();
        callByChosen();
        sayTells();
        addUpToTheSize();
        takeUpToTheWater();
        warmUpToTheMost();
        failWithNumber();
        refuseEndsTheCheck();
        lessBelow();
        tryAndRescue();
        refuseThroughTry();
        lateRefusal();
        eachActionIsATick();
        fourHundredTicks();
        mostBodies();
        spentAtOnceByTicks();
        twelveUnderWay();
        spentAtOnceByBodies();
        spentInCheckAndClose();
        outcomeOfNone();
        outcomeNumbers();
        outcomeOfTheLatest();
        ranBodies();
        ranBeyond();
        saidBeyond();
        due.end();
    }

    /** A house with one apparatus of size 100, with 50 water and 1000 heat, of a kind of the house's package. */
    private static StillHouse house(String bodies) {
        StillHouse x = new StillHouse();
        due.taken(x, "pack p with house { kind b under still { " + bodies + " } }");
        due.is("make", x.make(3, 100), 0);
        due.is("charge", x.charge(0, 50, 1000), 50);
        return x;
    }

    private static void ends(StillHouse x, int a, int way, int number) {
        due.is("act(0, " + a + ")", x.act(0, a), way);
        due.is("outcome(0) of act(0, " + a + ")", x.outcome(0), number);
    }

    private static void numbersOfActs() {
        due.sentence("AN ACT of one with a number a (0 .. 999)");
        StillHouse x = house("open step { say a; }");
        int[] right = {0, 1, 500, 998, 999};
        for (int a : right) {
            ends(x, a, DONE, 0);
            due.told("a", x, 0, 1, a, 3, 4, 5);
        }
    }

    private static void actBeyond() {
        due.sentence("BEYOND: there is no such apparatus, or a isn't 0 .. 999.");
        StillHouse x = new StillHouse();
        due.is("no apparatus", x.act(0, 0), -1);
        due.is("make", x.make(0, 1), 0);
        due.is("make", x.make(0, 1), 1);
        due.is("act", x.act(0, 0), 0);
        due.is("act", x.act(1, 999), 0);
        due.is("apparatus 2", x.act(2, 0), -1);
        due.is("apparatus -1", x.act(-1, 0), -1);
        due.is("a 1000", x.act(1, 1000), -1);
        due.is("a -1", x.act(1, -1), -1);
        for (int far : FAR) {
            due.is("act", x.act(far, 0), -1);
            due.is("act", x.act(0, far), -1);
        }
        due.is("found(-1)", x.found(-1), 5 + 10);
        due.is("records", x.count(3), 2);
    }

    private static void templateByChosen() {
        due.sentence("the house's template calls, by CHOSEN for kind 0's bodies: check");
        StringBuilder bodies = new StringBuilder();
        for (int hook = 0; hook < 6; hook++) {
            bodies.append("open ").append(HOOKS[hook]).append(" { say ").append(10 + hook).append("; } ");
        }
        StillHouse x = house(bodies.toString());
        ends(x, 0, DONE, 0);
        due.told("the house's package", x, 10, 11, 12, 13, 14, 15);
        x = new StillHouse();
        due.taken(x, "pack p { kind b under still { " + bodies + "} }");
        due.is("make", x.make(3, 1), 0);
        ends(x, 0, DONE, 0);
        due.told("another package: the house's note", x, 10, 11, 12, 13, 4, 15);
        due.is("its kind", x.ran(4, 0), 0);
        due.is("its kind", x.ran(5, 0), 3);
    }

    private static void refusedCheck() {
        due.sentence("check; if it was refused: REFUSED, with its number.");
        StillHouse x = house("open check { less 500 { refuse a; } say 10; }");
        int[] numbers = {0, 1, 499};
        for (int a : numbers) {
            ends(x, a, REFUSED, a);
            due.ran("nothing else is run", x, 3, 0, 0);
            due.told("nothing is told", x);
        }
        ends(x, 500, DONE, 0);
        due.told("not refused", x, 10, 1, 2, 3, 4, 5);
    }

    private static void tillOneFails() {
        due.sentence("Otherwise before, step, after, note, one behind the other, till one FAILS; then close, on every way");
        for (int hook = 1; hook <= 4; hook++) {
            StillHouse x = house("open " + HOOKS[hook] + " { less 5 { fail 77; } up; }");
            ends(x, 4, FAILED, 77);
            int[] told = new int[hook + 1];
            for (int i = 0; i < hook; i++) {
                told[i] = i;
            }
            told[hook] = 5;
            due.told(HOOKS[hook] + " failed", x, told);
            due.is("bodies", x.outcome(1), hook + 2);
            due.is("the one that failed", x.ran(hook, 1), hook);
            due.is("close", x.ran(hook + 1, 1), 5);
            ends(x, 5, DONE, 0);
            due.told(HOOKS[hook] + " did not fail", x, 0, 1, 2, 3, 4, 5);
        }
    }

    private static void failedCheck() {
        due.sentence("till one FAILS; then close, on every way");
        StillHouse x = house("open check { less 5 { fail 9; } up; }");
        ends(x, 4, FAILED, 9);
        due.ran("close alone is run", x, 3, 0, 0, 0, 5, 0);
        ends(x, 5, DONE, 0);
    }

    private static void closeOnEveryWay() {
        due.sentence("while its closing is done on every way once");
        StillHouse x = house("open step { less 5 { fail 1; } less 6 { try { fail 2; } rescue { } } } open close { add 1; say 60; }");
        for (int a = 4; a <= 6; a++) {
            ends(x, a, a < 5 ? FAILED : DONE, a < 5 ? 1 : 0);
            int closings = 0;
            for (int i = 0; i < x.outcome(1); i++) {
                closings += x.ran(i, 1) == 5 ? 1 : 0;
            }
            due.is("closings", closings, 1);
            due.is("told at last", x.said(x.outcome(2) - 1), 60);
        }
        due.is("water", x.apparatus(0, 2), 52);
    }

    private static void firstFailureCounts() {
        due.sentence("if that FAILS too, the first failure's number counts. With a failure the act FAILED.");
        StillHouse x = house("open step { less 5 { fail 1; } } open close { less 9 { fail 2; } }");
        ends(x, 4, FAILED, 1);
        ends(x, 5, FAILED, 2);
        ends(x, 8, FAILED, 2);
        ends(x, 9, DONE, 0);
        x = house("open check { less 5 { fail 0; } } open close { fail 2; }");
        ends(x, 4, FAILED, 0);
        ends(x, 5, FAILED, 2);
        x = house("open step { fail 1; } open close { try { fail 2; } rescue { } }");
        ends(x, 0, FAILED, 1);
        x = house("open step { try { fail 1; } rescue { } } open close { try { fail 2; } rescue { } }");
        ends(x, 0, DONE, 0);
    }

    private static void asAheadOfIt() {
        due.sentence("REFUSED or FAILED, water and heat of all are as ahead of it.");
        String change = "add 7; take 3; warm 9; ";
        String[] bodies = {"open check { " + change + "refuse 1; }", "open check { " + change + "fail 1; }",
            "open before { " + change + "} open note { " + change + "fail 1; }",
            "open step { " + change + "} open close { " + change + "fail 1; }",
            "open step { try { " + change + "fail 2; } rescue { " + change + "fail 1; } }"};
        for (int i = 0; i < bodies.length; i++) {
            StillHouse x = house(bodies[i]);
            ends(x, 0, i == 0 ? REFUSED : FAILED, 1);
            due.is("water", x.apparatus(0, 2), 50);
            due.is("heat", x.apparatus(0, 3), 1000);
            long[] all = {50, 50, 0, 0, 1000, 1000, 0};
            for (int what = 0; what < 7; what++) {
                due.is("all(" + what + ")", x.all(what), all[what]);
            }
            due.is("records", x.count(3), 1);
        }
        StillHouse x = house("open step { " + change + "}");
        ends(x, 0, DONE, 0);
        due.is("water", x.apparatus(0, 2), 54);
        due.is("heat", x.apparatus(0, 3), 1009);
        due.is("records", x.count(3), 2);
    }

    private static void asAheadOfAll() {
        due.sentence("water and heat of all are as ahead of it");
        StillHouse x = house("open step { add a; warm a; } open close { less 5 { fail 1; } }");
        due.is("make", x.make(3, 100), 1);
        due.is("charge", x.charge(1, 10, 20), 10);
        due.is("act", x.act(1, 4), FAILED);
        due.is("act", x.act(0, 5), DONE);
        due.is("act", x.act(1, 6), DONE);
        due.is("act", x.act(0, 3), FAILED);
        due.is("water", x.apparatus(0, 2), 55);
        due.is("heat", x.apparatus(0, 3), 1005);
        due.is("water", x.apparatus(1, 2), 16);
        due.is("heat", x.apparatus(1, 3), 26);
    }

    private static void inTurn() {
        due.sentence("ACTIONS in turn");
        StillHouse x = house("open step { take 50; add 100; take 100; add 1; take 1; }");
        ends(x, 0, DONE, 0);
        due.is("water", x.apparatus(0, 2), 0);
        ends(x, 0, FAILED, 1000);
        x = house("open step { say 30; fail 1; say 31; }");
        ends(x, 0, FAILED, 1);
        due.told("nothing behind a failure", x, 0, 1, 30, 5);
    }

    private static void upRunsTheBodyAbove() {
        due.sentence("up runs the body ABOVE");
        StillHouse x = new StillHouse();
        due.taken(x, "pack p { kind b under still { note { say 20; } open step { say 21; up; } } }");
        due.taken(x, "pack q { kind c under b { note { say 22; } } }");
        // d's package sees b's note, not c's that is between; a body below is not run by up.
        due.taken(x, "pack r with p { kind d under c { note { say 23; up; } open step { up; call note; } } }");
        due.taken(x, "pack s with p { kind e under d { note { say 24; up; } } }");
        due.is("make", x.make(6, 9), 0);
        ends(x, 0, DONE, 0);
        due.told("up", x, 0, 1, 21, 2, 24, 23, 20, 3, 4, 5);
    }

    private static void callByChosen() {
        due.sentence("call one by CHOSEN for that RESOLVED and the apparatus' kind");
        StillHouse x = new StillHouse();
        due.taken(x, "pack p { kind b under still { note { say 20; } open step { call note; } } kind c under b { note { say 21; } } }");
        due.taken(x, "pack q { kind d under c { note { say 22; } open after { call note; } } }");
        due.is("make", x.make(3, 9), 0);
        due.is("make", x.make(4, 9), 1);
        due.is("make", x.make(5, 9), 2);
        due.is("act", x.act(0, 0), DONE);
        due.told("b", x, 0, 1, 20, 3, 4, 5);
        due.is("act", x.act(1, 0), DONE);
        due.told("c", x, 0, 1, 21, 3, 4, 5);
        due.is("act", x.act(2, 0), DONE);
        due.told("d: b's call is of c's, d's of its own", x, 0, 1, 21, 22, 4, 5);
    }

    private static void sayTells() {
        due.sentence("say tells a number");
        StillHouse x = house("open step { say 0; say 999; say a; say 000; }");
        ends(x, 999, DONE, 0);
        due.told("said", x, 0, 1, 0, 999, 999, 0, 3, 4, 5);
        ends(x, 0, DONE, 0);
        due.told("said", x, 0, 1, 0, 999, 0, 0, 3, 4, 5);
        // What was told stays told when the act is refused or fails.
        x = house("open check { say 10; less 5 { refuse 1; } fail 2; }");
        ends(x, 4, REFUSED, 1);
        due.told("refused", x, 10);
        ends(x, 5, FAILED, 2);
        due.told("failed", x, 10, 5);
    }

    private static void addUpToTheSize() {
        due.sentence("add gives water (beyond the size: FAILS with 1001)");
        StillHouse x = house("open step { add a; }");
        ends(x, 51, FAILED, 1001);
        ends(x, 999, FAILED, 1001);
        due.is("water", x.apparatus(0, 2), 50);
        ends(x, 49, DONE, 0);
        due.is("water", x.apparatus(0, 2), 99);
        ends(x, 2, FAILED, 1001);
        ends(x, 1, DONE, 0);
        due.is("water", x.apparatus(0, 2), 100);
        ends(x, 1, FAILED, 1001);
        ends(x, 0, DONE, 0);
        due.is("make", x.make(3, 0), 1);
        due.is("size 0", x.act(1, 0), DONE);
        due.is("size 0", x.act(1, 1), FAILED);
        due.is("make", x.make(3, 10000), 2);
        due.is("charge", x.charge(2, 9999, 0), 9999);
        due.is("the greatest size", x.act(2, 2), FAILED);
        due.is("the greatest size", x.act(2, 1), DONE);
        due.is("water", x.apparatus(2, 2), 10000);
        // Heat up to the most leaves room for water.
        due.is("charge", x.charge(1, 0, 100000), 0);
        due.is("make", x.make(3, 5), 3);
        due.is("charge", x.charge(3, 0, 100000), 0);
        due.is("act", x.act(1, 1), FAILED);
        due.is("act", x.act(3, 6), FAILED);
        due.is("act", x.act(3, 5), DONE);
    }

    private static void takeUpToTheWater() {
        due.sentence("take takes it (more than there is: 1000)");
        StillHouse x = house("open step { take a; }");
        ends(x, 51, FAILED, 1000);
        ends(x, 999, FAILED, 1000);
        ends(x, 49, DONE, 0);
        due.is("water", x.apparatus(0, 2), 1);
        ends(x, 2, FAILED, 1000);
        ends(x, 1, DONE, 0);
        due.is("water", x.apparatus(0, 2), 0);
        ends(x, 0, DONE, 0);
        ends(x, 1, FAILED, 1000);
        due.is("heat is not taken", x.apparatus(0, 3), 1000);
    }

    private static void warmUpToTheMost() {
        due.sentence("warm gives heat (above 100000 in all: 1002)");
        StillHouse x = house("open step { warm a; }");
        due.is("charge", x.charge(0, 0, 98500), 50);
        ends(x, 501, FAILED, 1002);
        ends(x, 499, DONE, 0);
        due.is("heat", x.apparatus(0, 3), 99999);
        ends(x, 2, FAILED, 1002);
        ends(x, 1, DONE, 0);
        due.is("heat", x.apparatus(0, 3), 100000);
        ends(x, 1, FAILED, 1002);
        ends(x, 0, DONE, 0);
        // Water up to the size leaves room for heat, as does the heat of another apparatus.
        due.is("make", x.make(3, 0), 1);
        due.is("act", x.act(1, 999), DONE);
        due.is("heat", x.apparatus(1, 3), 999);
        due.is("heat of all", x.all(4), 100999);
    }

    private static void failWithNumber() {
        due.sentence("fail FAILS with N");
        StillHouse x = house("open step { less 5 { fail 0; } less 6 { fail 999; } fail a; }");
        ends(x, 4, FAILED, 0);
        ends(x, 5, FAILED, 999);
        ends(x, 6, FAILED, 6);
        ends(x, 999, FAILED, 999);
    }

    private static void refuseEndsTheCheck() {
        due.sentence("refuse (also in a body called by another one) ends the check, refused with N.");
        StillHouse x = house("open check { less 5 { refuse 0; } less 6 { refuse 999; } refuse a; say 10; }");
        ends(x, 4, REFUSED, 0);
        ends(x, 5, REFUSED, 999);
        ends(x, 6, REFUSED, 6);
        due.told("nothing behind it", x);
        x = new StillHouse();
        due.taken(x, "pack p { kind b under still { open check { refuse 7; } } "
            + "kind c under b { open check { say 10; up; say 11; } } "
            + "kind d under c { open check { say 12; call step; say 13; } open step { say 14; call after; say 15; } } }");
        due.is("make", x.make(4, 0), 0);
        ends(x, 0, REFUSED, 7);
        due.told("by up", x, 10);
        due.ran("by up", x, 4, 0, 0, 3, 0, 1);
        x = house("open check { try { take 1; } rescue { refuse 8; } call step; say 13; } open step { call check; say 15; }");
        ends(x, 0, SPENT, 0);
        x = house("open check { try { take 25; } rescue { refuse 8; } call step; say 13; } open step { call check; say 15; }");
        ends(x, 0, REFUSED, 8);
        due.ran("by call", x, 3, 0, 0, 3, 2, 1, 3, 0, 2, 3, 2, 3, 3, 0, 4);
        due.told("by call", x);
    }

    private static void lessBelow() {
        due.sentence("less: the first ACTIONS if a is below N, else those of else.");
        int[][] cases = {{0, 0, 0}, {0, 1, 1}, {1, 1, 0}, {1, 0, 0}, {4, 5, 1}, {5, 5, 0}, {6, 5, 0}, {998, 999, 1},
            {999, 999, 0}, {0, 999, 1}};
        for (int[] of : cases) {
            StillHouse x = house("open step { less " + of[1] + " { say 30; } else { say 31; } less " + of[1] + " { say 32; } }");
            ends(x, of[0], DONE, 0);
            if (of[2] == 1) {
                due.told("less", x, 0, 1, 30, 32, 3, 4, 5);
            } else {
                due.told("less", x, 0, 1, 31, 3, 4, 5);
            }
        }
        due.sentence("a is the act's number.");
        StillHouse x = house("open step { less a { say 30; } else { say 31; } }");
        ends(x, 0, DONE, 0);
        due.told("less a", x, 0, 1, 31, 3, 4, 5);
        ends(x, 999, DONE, 0);
        due.told("less a", x, 0, 1, 31, 3, 4, 5);
    }

    private static void tryAndRescue() {
        due.sentence("try: its ACTIONS; if one FAILS, the rescue's (what was done stays).");
        StillHouse x = house("open step { try { add 1; warm 2; less 5 { fail 1; } say 30; } rescue { take 3; say 31; } say 32; }");
        ends(x, 5, DONE, 0);
        due.told("none fails", x, 0, 1, 30, 32, 3, 4, 5);
        due.is("water", x.apparatus(0, 2), 51);
        ends(x, 4, DONE, 0);
        due.told("one fails", x, 0, 1, 31, 32, 3, 4, 5);
        due.is("water", x.apparatus(0, 2), 49);
        due.is("heat", x.apparatus(0, 3), 1004);
        due.is("added", x.all(2), 2);
        due.is("taken", x.all(3), 3);
        due.is("warmed", x.all(6), 4);
        String[] failing = {"fail 0;", "fail a;", "add 51;", "take 51;", "warm 999;", "up; fail 1;",
            "less a { } else { fail 1; }", "try { fail 1; } rescue { fail 2; }"};
        for (String action : failing) {
            x = house("open step { try { " + action + " say 30; } rescue { say 31; } }");
            due.is("charge", x.charge(0, 0, 98500), 50);
            ends(x, 4, DONE, 0);
            due.is("rescued: " + action, x.said(x.outcome(2) - 4), 31);
        }
        x = house("open step { try { call after; say 30; } rescue { say 31; } } open after { less 5 { say 33; fail 3; } }");
        ends(x, 4, FAILED, 3);
        due.told("the failure of a body that is called is rescued, the template's is not", x, 0, 1, 33, 31, 33, 5);
        x = house("open step { try { } rescue { say 31; } try { fail 1; } rescue { } }");
        ends(x, 4, DONE, 0);
        due.told("empty ones", x, 0, 1, 3, 4, 5);
        x = house("open step { try { fail 1; } rescue { say 31; fail 2; } say 32; }");
        ends(x, 4, FAILED, 2);
        due.told("a failing rescue", x, 0, 1, 31, 5);
    }

    private static void refuseThroughTry() {
        due.sentence("refuse goes through try.");
        StillHouse x = house("open check { try { less 5 { refuse 1; } fail 2; } rescue { say 10; } }");
        ends(x, 4, REFUSED, 1);
        due.told("no rescue", x);
        ends(x, 5, DONE, 0);
        due.told("a failure is rescued", x, 10, 1, 2, 3, 4, 5);
        x = house("open check { try { fail 1; } rescue { try { refuse 2; } rescue { say 10; } } }");
        ends(x, 0, REFUSED, 2);
        due.told("from a rescue", x);
    }

    private static void lateRefusal() {
        due.sentence("called from before, step, .. , refuse FAILS with N and 2000.");
        // The first check takes the water, so that only a later one refuses.
        String check = "open check { try { take 50; } rescue { refuse a; } } ";
        for (int hook = 1; hook < 6; hook++) {
            StillHouse x = house(check + "open " + HOOKS[hook] + " { call check; say 80; }");
            ends(x, 0, FAILED, 2000);
            ends(x, 999, FAILED, 2999);
            due.is("water", x.apparatus(0, 2), 50);
            due.is("close is run", x.ran(x.outcome(1) - (hook == 5 ? 2 : 1), 1), 5);
            x = house(check + "open " + HOOKS[hook] + " { try { call check; say 80; } rescue { say 81; } }");
            ends(x, 7, DONE, 0);
            due.is("rescued", x.said(hook - 1), 81);
        }
        StillHouse x = house(check + "open step { fail 3; } open close { call check; }");
        ends(x, 7, FAILED, 3);
    }

    private static void eachActionIsATick() {
        due.sentence("A TICK goes by with each ACTION.");
        String[] texts = {"", "say 1;", "up;", "call close;", "add 1;", "take 1;", "warm 1;", "less 5 { }", "less 5 { say 1; }",
            "less 5 { say 1; } else { say 1; say 1; }", "less 0 { say 1; } else { say 1; say 1; }", "less 0 { say 1; }",
            "try { } rescue { say 1; }", "try { fail 1; say 1; } rescue { say 1; say 1; }"};
        int[] ticks = {0, 1, 2, 2, 1, 1, 1, 1, 2, 2, 3, 1, 1, 4};
        for (int i = 0; i < texts.length; i++) {
            StillHouse x = house("open step { " + texts[i] + " }");
            ends(x, 1, DONE, 0);
            due.is("ticks of " + texts[i], x.outcome(3), 5 + ticks[i]);
        }
        String[] failing = {"fail 1; say 1;", "add 99; say 1;", "take 99; say 1;", "call after; say 1;"};
        for (int i = 0; i < failing.length; i++) {
            StillHouse x = house("open step { " + failing[i] + " } open after { fail 1; }");
            due.is("act", x.act(0, 1), FAILED);
            due.is("ticks of " + failing[i], x.outcome(3), i == 3 ? 5 : 4);
        }
        StillHouse x = house("open check { refuse 1; say 1; }");
        ends(x, 1, REFUSED, 1);
        due.is("ticks", x.outcome(3), 1);
    }

    private static void fourHundredTicks() {
        due.sentence("When one would be the 401st of an act");
        // check 1, before 1, step 6 + 6 * 55 and those behind, after 55, note 1, close 1: 395 and those behind.
        for (int behind = 3; behind <= 7; behind++) {
            StillHouse x = house("open step { " + "call after; ".repeat(6) + "say 2; ".repeat(behind) + "} open after { "
                + "say 1; ".repeat(55) + "}");
            boolean spent = 395 + behind > 400;
            ends(x, 0, spent ? SPENT : DONE, 0);
            due.is("ticks", x.outcome(3), spent ? 400 : 395 + behind);
            due.is("told", x.outcome(2), (spent ? 400 : 395 + behind) - 6);
            due.is("records", x.count(3), spent ? 1 : 2);
        }
    }

    /** The most bodies that there can be: each tick runs one, and the template six. */
    private static void mostBodies() {
        due.sentence("1 how many bodies were run");
        for (int more = 8; more <= 10; more++) {
            StillHouse x = new StillHouse();
            due.taken(x, "pack p with house { kind m under still { open check { } open before { } open after { } open note { } "
                + "open close { } } kind b under m { open before { " + "up; ".repeat(more) + "} open step { "
                + "call after; ".repeat(6) + "} open after { " + "up; ".repeat(55) + "} } }");
            due.is("make", x.make(4, 0), 0);
            // before more, step 6 + 6 * 55, after 55: 391 and more.
            ends(x, 0, more > 9 ? SPENT : DONE, 0);
            int ticks = Math.min(391 + more, 400);
            due.is("ticks", x.outcome(3), ticks);
            due.is("bodies", x.outcome(1), more > 9 ? 4 + ticks : 6 + ticks);
            due.is("the last one", x.ran(x.outcome(1) - 1, 1), more > 9 ? 3 : 5);
            due.is("behind it", x.ran(x.outcome(1), 1), -1);
            due.is("told", x.outcome(2), 0);
        }
    }

    private static void spentAtOnceByTicks() {
        due.sentence("SPENT: it ends at once (no rescue, no close), water and heat as ahead of it.");
        StillHouse x = house("open step { add 5; warm 5; try { " + "call after; ".repeat(8) + "} rescue { take 1; } } open after { "
            + "say 1; ".repeat(55) + "}");
        ends(x, 0, SPENT, 0);
        due.is("water", x.apparatus(0, 2), 50);
        due.is("heat", x.apparatus(0, 3), 1000);
        due.is("ticks", x.outcome(3), 400);
        due.is("the latest body is no close", x.ran(x.outcome(1) - 1, 1), 3);
        due.is("records", x.count(3), 1);
        due.is("added", x.all(2), 0);
        due.is("warmed", x.all(6), 0);
        // The action that would be one too many is not begun: it neither fails nor runs a body.
        String[] rows = {"fail 1;", "add 999;", "call before;", "up;", "try { fail 1; } rescue { }"};
        for (String row : rows) {
            int ahead = 2 + 7 + 7 * 55;
            x = house("open step { " + "call after; ".repeat(7) + "say 2; ".repeat(400 - ahead) + row + " } open after { "
                + "say 1; ".repeat(55) + "}");
            ends(x, 0, SPENT, 0);
            due.is("ticks", x.outcome(3), 400);
            due.is("bodies", x.outcome(1), 3 + 7);
        }
    }

    /** A row of kinds, each with a step that goes up to the next: as many bodies are under way as the row is long. */
    private static StillHouse chainOf(int kinds, String hook) {
        StillHouse x = new StillHouse();
        String above = "still";
        for (int done = 0; done < kinds; done += 6) {
            StringBuilder text = new StringBuilder("pack p {");
            for (int i = done; i < kinds && i < done + 6; i++) {
                String name = "k" + (char) ('b' + i);
                text.append(" kind ").append(name).append(" under ").append(above).append(" { open ").append(hook)
                    .append(" { add 1; try { up; } rescue { say 90; } } }");
                above = name;
            }
            due.taken(x, text + " }");
        }
        due.is("make", x.make(2 + kinds, 100), 0);
        return x;
    }

    private static void twelveUnderWay() {
        due.sentence("or a body would be run with 12 under way: SPENT");
        for (int kinds = 9; kinds <= 13; kinds++) {
            StillHouse x = chainOf(kinds, "step");
            boolean spent = kinds + 1 > 12;
            ends(x, 0, spent ? SPENT : DONE, 0);
            due.is("bodies", x.outcome(1), spent ? 2 + 12 : kinds + 6);
            due.is("deepest", x.ran(2 + Math.min(kinds, 11), 2), Math.min(kinds, 11));
            due.is("water", x.apparatus(0, 2), spent ? 0 : kinds);
            due.is("ticks", x.outcome(3), spent ? 2 + 12 * 3 : 6 + kinds * 3);
        }
    }

    private static void spentAtOnceByBodies() {
        due.sentence("it ends at once (no rescue, no close)");
        StillHouse x = chainOf(12, "after");
        ends(x, 0, SPENT, 0);
        due.told("no rescue, no close", x, 0, 1, 2);
        x = house("open step { add 1; warm 1; try { call step; } rescue { say 90; } } open close { say 91; }");
        ends(x, 0, SPENT, 0);
        due.told("no rescue, no close", x, 0, 1);
        due.is("water", x.apparatus(0, 2), 50);
        due.is("heat", x.apparatus(0, 3), 1000);
        due.is("records", x.count(3), 1);
    }

    private static void spentInCheckAndClose() {
        due.sentence("water and heat as ahead of it");
        StillHouse x = house("open check { add 1; call check; }");
        ends(x, 0, SPENT, 0);
        due.is("bodies", x.outcome(1), 12);
        due.is("water", x.apparatus(0, 2), 50);
        x = house("open step { add 1; less 5 { fail 7; } } open close { warm 1; call close; }");
        ends(x, 4, SPENT, 0);
        due.is("bodies", x.outcome(1), 3 + 12);
        due.is("water", x.apparatus(0, 2), 50);
        due.is("heat", x.apparatus(0, 3), 1000);
        ends(x, 5, SPENT, 0);
        due.is("bodies", x.outcome(1), 5 + 12);
        due.is("water", x.apparatus(0, 2), 50);
    }

    private static void outcomeOfNone() {
        due.sentence("0 its number of refusal or failure (0 if it was done or SPENT, or there was none)");
        StillHouse x = house("open check { less 2 { refuse 1; } } open step { less 4 { fail a; } less 6 { call step; } }");
        for (int what = 0; what < 4; what++) {
            due.is("there was none", x.outcome(what), 0);
        }
        ends(x, 1, REFUSED, 1);
        ends(x, 9, DONE, 0);
        ends(x, 3, FAILED, 3);
        ends(x, 5, SPENT, 0);
        ends(x, 2, FAILED, 2);
        ends(x, 9, DONE, 0);
    }

    private static void outcomeNumbers() {
        due.sentence("1 how many bodies were run, 2 how many numbers were told, 3 TICKS. BEYOND: another what.");
        StillHouse x = house("open step { call before; add 1; warm 1; }");
        ends(x, 0, DONE, 0);
        due.is("bodies", x.outcome(1), 7);
        due.is("numbers", x.outcome(2), 6);
        due.is("ticks", x.outcome(3), 9);
        due.is("what 4", x.outcome(4), -1);
        due.is("what -1", x.outcome(-1), -1);
        for (int far : FAR) {
            due.is("outcome", x.outcome(far), -1);
        }
        due.is("found(-1)", x.found(-1), 7);
    }

    private static void outcomeOfTheLatest() {
        due.sentence("Of the latest act");
        StillHouse x = house("open step { say a; less 5 { fail 1; } }");
        ends(x, 4, FAILED, 1);
        due.is("act beyond", x.act(0, 1000), -1);
        due.is("charge", x.charge(0, 1, 1), 51);
        due.is("undo", x.undo(), 1);
        due.is("make", x.make(0, 1), 1);
        due.is("the act that failed is the latest", x.outcome(0), 1);
        due.told("failed", x, 0, 1, 4, 5);
        ends(x, 5, DONE, 0);
        due.is("undo", x.undo(), 1);
        due.told("taken back, but the latest", x, 0, 1, 5, 3, 4, 5);
    }

    private static void ranBodies() {
        due.sentence("Of the i-th body run in it: 0 its kind, 1 its hook, 2 how many were under way as it began.");
        StillHouse x = house("open check { up; call before; } open step { call close; up; } open close { up; }");
        ends(x, 0, DONE, 0);
        due.ran("ran", x, 3, 0, 0, 0, 0, 1, 0, 1, 1, 0, 1, 0, 3, 2, 0, 3, 5, 1, 0, 5, 2, 0, 2, 1, 0, 3, 0, 0, 4, 0, 3, 5, 0,
            0, 5, 1);
    }

    private static void ranBeyond() {
        due.sentence("BEYOND: there is none such, or another what.");
        StillHouse x = house("");
        due.is("none was run", x.ran(0, 0), -1);
        ends(x, 0, DONE, 0);
        due.is("ran(5, 1)", x.ran(5, 1), 5);
        due.is("ran(6, 1)", x.ran(6, 1), -1);
        due.is("ran(-1, 1)", x.ran(-1, 1), -1);
        due.is("what 2", x.ran(5, 2), 0);
        due.is("what 3", x.ran(5, 3), -1);
        due.is("what -1", x.ran(5, -1), -1);
        for (int far : FAR) {
            due.is("ran", x.ran(far, 0), -1);
            due.is("ran", x.ran(0, far), -1);
        }
        due.is("found(-1)", x.found(-1), 5 + 10);
        // A shorter act behind a longer one.
        x = house("open check { less 5 { refuse 1; } }");
        ends(x, 5, DONE, 0);
        due.is("ran(5, 1)", x.ran(5, 1), 5);
        ends(x, 4, REFUSED, 1);
        due.is("ran(0, 1)", x.ran(0, 1), 0);
        due.is("ran(1, 1)", x.ran(1, 1), -1);
    }

    private static void saidBeyond() {
        due.sentence("The i-th number told in it. BEYOND: there is none such.");
        StillHouse x = house("open check { less 5 { refuse 1; } say 10; }");
        due.is("none was told", x.said(0), -1);
        ends(x, 5, DONE, 0);
        due.is("said(0)", x.said(0), 10);
        due.is("said(5)", x.said(5), 5);
        due.is("said(6)", x.said(6), -1);
        due.is("said(-1)", x.said(-1), -1);
        for (int far : FAR) {
            due.is("said", x.said(far), -1);
        }
        ends(x, 4, REFUSED, 1);
        due.is("said(0)", x.said(0), -1);
        due.is("found(-1)", x.found(-1), 4 + 5);
    }
}
