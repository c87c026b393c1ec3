/** The boundary cases of kinds, bodies and families (Terms 1; promises 1, 6 to 11). */
public final class EdgesOfKindsTest {
    private static final Due due = new Due("EdgesOfKindsTest");
    private static final String[] HOOKS = {"check", "before", "step", "after", "note", "close"};
    private static final int[] FAR = {Integer.MIN_VALUE, -1000, -5, 1000, Integer.MAX_VALUE};

    public static void main(String[] args) {
        newHouse();
        houseSays();
        houseSaysOfPots();
        fortyKinds();
        kindWithoutOneAbove();
        kindWithoutPack();
        bitsOfHooks();
        depths();
        kindBeyond();
        notUnderItself();
        bodyOfEach();
        bodyBeyond();
        bodyNone();
        bodyActions();
        overridesSeen();
        overridesBetween();
        overridesBeyond();
        overridesNone();
        chosenGoingUp();
        chosenBeyond();
        chosenNone();
        resolvedHasOrSees();
        resolvedAbove();
        resolvedBeyond();
        counts();
        countBeyond();
        due.end();
    }

    private static StillHouse houseWith(String... packs) {
        StillHouse x = new StillHouse();
        for (String pack : packs) {
            due.taken(x, pack);
        }
        return x;
    }

    private static void newHouse() {
        due.sentence("The three kinds, no packs, no apparatus.");
        StillHouse x = new StillHouse();
        due.is("kinds", x.count(0), 3);
        due.is("packs", x.count(1), 0);
        due.is("apparatus", x.count(2), 0);
        due.is("records", x.count(3), 0);
        due.is("the third", x.kind(2, 0), 0);
        due.is("a fourth", x.kind(3, 0), -1);
        due.is("a pack", x.retire(0), -1);
        due.is("an apparatus", x.apparatus(0, 0), -1);
        due.is("a record", x.record(0, 0), -1);
        due.is("an object has its own findings", x.found(-1), 4);
        due.is("another object has none of them", new StillHouse().found(-1), 0);
    }

    private static void houseSays() {
        due.sentence("kind 0 \"still\" with bodies of all hooks: check and close OPEN, before, step, after GUARDED, note its "
            + "PACKAGE's, that say 0, 1, 2, 3, 4, 5 (each its hook's number)");
        StillHouse x = new StillHouse();
        int[] rights = {0, 1, 1, 1, 2, 0};
        due.is("hooks", x.kind(0, 3), 63);
        for (int hook = 0; hook < 6; hook++) {
            due.is("right", x.body(0, hook, 0), rights[hook]);
            due.is("last", x.body(0, hook, 1), 0);
            due.is("actions", x.body(0, hook, 2), 1);
        }
        due.is("make", x.make(0, 0), 0);
        due.is("act", x.act(0, 0), 0);
        due.told("still", x, 0, 1, 2, 3, 4, 5);
    }

    private static void houseSaysOfPots() {
        due.sentence("kind 1 \"pot\" under it, with note (its PACKAGE's): up, say 14; kind 2 \"column\" under pot, with step, "
            + "GUARDED and last: up, add 1.");
        StillHouse x = new StillHouse();
        int[][] bodies = {{1, 4, 2, 0, 2}, {2, 2, 1, 1, 2}};
        for (int[] body : bodies) {
            due.is("hooks", x.kind(body[0], 3), 1 << body[1]);
            for (int what = 0; what < 3; what++) {
                due.is("body", x.body(body[0], body[1], what), body[2 + what]);
            }
        }
        due.is("make", x.make(2, 1), 0);
        due.is("act", x.act(0, 0), 0);
        due.told("column", x, 0, 1, 2, 3, 4, 14, 5);
        due.is("water", x.apparatus(0, 2), 1);
        due.is("act", x.act(0, 0), 2);
        due.is("outcome(0)", x.outcome(0), 1001);
        due.fault("pack p { kind k under column { open ^step { } } }", 5);
        due.taken(x, "pack p with house { kind k under pot { note { up; } open step { up; } } }");
    }

    private static StillHouse houseOfForty() {
        StillHouse x = new StillHouse();
        String above = "still";
        for (int pack = 0; pack < 4; pack++) {
            StringBuilder text = new StringBuilder("pack p{");
            for (int i = 0; i < (pack == 3 ? 7 : 10); i++) {
                String name = "" + (char) ('p' + pack) + (char) ('b' + i);
                text.append("kind ").append(name).append(" under ").append(above).append("{open step{up;}}");
                above = name;
            }
            due.taken(x, text.append('}').toString());
        }
        return x;
    }

    private static void fortyKinds() {
        due.sentence("KINDS 0, 1, .. (at most 40) each have a PACKAGE, a kind ABOVE it (but kind 0)");
        StillHouse x = houseOfForty();
        due.is("kinds", x.count(0), 40);
        due.is("package", x.kind(39, 0), 4);
        due.is("above", x.kind(39, 1), 38);
        due.is("pack", x.kind(39, 2), 3);
        due.is("under", x.kind(39, 4), 37);
        due.is("kind(40)", x.kind(40, 0), -1);
        due.is("body(39)", x.body(39, 2, 2), 1);
        due.is("body(40)", x.body(40, 2, 2), -1);
        // The first and the last one of all, through all that are between them.
        due.is("overrides", x.overrides(39, 2, 0), 1);
        due.is("overrides", x.overrides(39, 2, 3), 1);
        due.is("overrides", x.overrides(0, 2, 39), 0);
        due.is("chosen", x.chosen(0, 2, 39), 39);
        due.is("chosen", x.chosen(39, 2, 39), 39);
        due.is("resolved", x.resolved(39, 0, false), 0);
        due.is("make", x.make(39, 5), 0);
        due.is("act: 37 steps up are too deep", x.act(0, 5), 3);
    }

    private static void kindWithoutOneAbove() {
        due.sentence("1 the kind ABOVE it (-7 of kind 0: no finding)");
        StillHouse x = new StillHouse();
        due.is("still", x.kind(0, 1), -7);
        due.is("pot", x.kind(1, 1), 0);
        due.is("column", x.kind(2, 1), 1);
        for (int finding = -4; finding < 0; finding++) {
            due.is("found", x.found(finding), 0);
        }
    }

    private static void kindWithoutPack() {
        due.sentence("2 its pack (-7 of 0 .. 2)");
        StillHouse x = houseWith("pack p with house { kind b under still { } }", "pack q { kind c under b { } }");
        int[] packs = {-7, -7, -7, 0, 1};
        for (int k = 0; k < packs.length; k++) {
            due.is("kind(" + k + ", 2)", x.kind(k, 2), packs[k]);
        }
        for (int finding = -4; finding < 0; finding++) {
            due.is("found", x.found(finding), 0);
        }
    }

    private static void bitsOfHooks() {
        due.sentence("3 bits of hooks that it has bodies of");
        for (int bits = 0; bits < 64; bits++) {
            StringBuilder text = new StringBuilder("pack p { kind k under still { ");
            for (int hook = 5; hook >= 0; hook--) {
                text.append((bits >> hook & 1) == 1 ? "open " + HOOKS[hook] + " { } " : "");
            }
            StillHouse x = houseWith(text + "} }");
            due.is("kind(3, 3)", x.kind(3, 3), bits);
        }
    }

    private static void depths() {
        due.sentence("4 how many kinds it is under");
        StillHouse x = houseWith("pack p { kind b under still { } kind c under column { } kind d under c { } kind e under b { } }");
        int[] depths = {0, 1, 2, 1, 3, 4, 2};
        for (int k = 0; k < depths.length; k++) {
            due.is("kind(" + k + ", 4)", x.kind(k, 4), depths[k]);
        }
    }

    private static void kindBeyond() {
        due.sentence("BEYOND: there is no such kind, or another what.");
        StillHouse x = houseWith("pack p { kind b under still { } }");
        for (int what = 0; what < 5; what++) {
            due.is("kind(3)", x.kind(3, what) == -1 ? 1 : 0, 0);
            due.is("kind(4)", x.kind(4, what), -1);
            due.is("kind(-1)", x.kind(-1, what), -1);
        }
        due.is("what 5", x.kind(3, 5), -1);
        due.is("what -1", x.kind(3, -1), -1);
        for (int far : FAR) {
            due.is("kind", x.kind(far, 0), -1);
            due.is("kind", x.kind(0, far), -1);
        }
        due.is("found(-1)", x.found(-1), 10 + 2 + 10);
    }

    private static void notUnderItself() {
        due.sentence("(A kind is UNDER those above it, by rows of others too; not under itself.)");
        StillHouse x = new StillHouse();
        for (int k = 0; k < 3; k++) {
            due.is("of its own kind", x.chosen(k, k == 0 ? 0 : k == 1 ? 4 : 2, k), k);
        }
        due.is("overrides itself", x.overrides(0, 2, 0), 0);
        due.is("overrides itself", x.overrides(2, 2, 2), 0);
        due.is("by a row of others", x.overrides(2, 2, 0), 1);
        due.is("by a row of others", x.chosen(0, 2, 2), 2);
        due.is("not the other way", x.overrides(0, 2, 2), 0);
    }

    private static void bodyOfEach() {
        due.sentence("0 its right (0 OPEN, 1 GUARDED, 2 its PACKAGE's), 1 whether it is last (1, 0)");
        StillHouse x = houseWith("pack p { kind b under still { open note { } } kind c under still { guarded note { } } "
            + "kind d under still { note { } } kind e under still { open last note { } } kind f under still { guarded last note { } } "
            + "kind g under still { last note { } } }");
        for (int i = 0; i < 6; i++) {
            due.is("right", x.body(3 + i, 4, 0), i % 3);
            due.is("last", x.body(3 + i, 4, 1), i / 3);
        }
    }

    private static void bodyBeyond() {
        due.sentence("BEYOND: there is no such kind, hook, or another what.");
        StillHouse x = houseWith("pack p { kind b under still { open check { } open close { } } }");
        due.is("body", x.body(3, 0, 0), 0);
        due.is("body", x.body(3, 5, 2), 0);
        due.is("kind 4", x.body(4, 0, 0), -1);
        due.is("kind -1", x.body(-1, 0, 0), -1);
        due.is("hook 6", x.body(3, 6, 0), -1);
        due.is("hook -1", x.body(3, -1, 0), -1);
        due.is("what 3", x.body(3, 0, 3), -1);
        due.is("what -1", x.body(3, 0, -1), -1);
        due.is("what 3 of no body", x.body(3, 1, 3), -1);
        due.is("what -1 of no body", x.body(3, 1, -1), -1);
        for (int far : FAR) {
            due.is("body", x.body(far, 0, 0), -1);
            due.is("body", x.body(3, far, 0), -1);
            due.is("body", x.body(3, 0, far), -1);
        }
        due.is("found(-1)", x.found(-1), 8 + 15);
        due.is("found(-2)", x.found(-2), 0);
    }

    private static void bodyNone() {
        due.sentence("NONE: it has none.");
        StillHouse x = new StillHouse();
        for (int hook = 0; hook < 6; hook++) {
            for (int what = 0; what < 3; what++) {
                due.is("pot's", x.body(1, hook, what) == -2 ? 1 : 0, hook == 4 ? 0 : 1);
                due.is("column's", x.body(2, hook, what) == -2 ? 1 : 0, hook == 2 ? 0 : 1);
            }
        }
        due.is("found(-2)", x.found(-2), 30);
    }

    private static void bodyActions() {
        due.sentence("2 its ACTIONS, those within others too");
        String[] texts = {"", "up;", "less 5 { }", "less 5 { up; }", "less 5 { } else { up; up; }", "try { up; } rescue { up; }",
            "less 5 { less 5 { less 5 { less 5 { less 5 { up; } } } } }", "try { } rescue { try { } rescue { up; } up; } up;"};
        int[] many = {0, 1, 1, 2, 3, 3, 6, 5};
        for (int i = 0; i < texts.length; i++) {
            StillHouse x = houseWith("pack p { kind b under still { open step { " + texts[i] + " } } }");
            due.is("actions of " + texts[i], x.body(3, 2, 2), many[i]);
        }
    }

    private static void overridesSeen() {
        due.sentence("A body MAY SEE another one of a kind above its own if that is OPEN or GUARDED, or both kinds have one package.");
        String[] rights = {"open ", "guarded ", ""};
        for (int right = 0; right < 3; right++) {
            for (int one = 0; one < 2; one++) {
                StillHouse x = houseWith("pack p { kind b under still { " + rights[right] + "note { } } kind c under b { } }",
                    "pack q " + (one == 1 ? "with p " : "") + "{ kind d under c { open note { } } }");
                int seen = right < 2 || one == 1 ? 1 : 0;
                due.is("overrides", x.overrides(5, 4, 3), seen);
                due.is("chosen", x.chosen(3, 4, 5), seen == 1 ? 5 : 3);
                due.is("resolved above", x.resolved(5, 4, true), seen == 1 ? 3 : -2);
                due.is("the house's is never seen", x.overrides(5, 4, 0), 0);
            }
        }
    }

    private static void overridesBetween() {
        due.sentence("A kind's body of a hook OVERRIDES that of a kind it is under if it MAY SEE it, or overrides one that a kind "
            + "between them has, which overrides that.");
        StillHouse x = houseWith("pack p { kind b under still { note { } } kind c under b { guarded note { } } }",
            "pack q { kind d under c { guarded note { } } kind e under d { open note { } } }");
        int[][] want = {{5, 4, 1}, {5, 3, 1}, {6, 5, 1}, {6, 4, 1}, {6, 3, 1}, {6, 0, 0}, {4, 3, 1}, {4, 0, 0}, {3, 4, 0}};
        for (int[] of : want) {
            due.is("overrides(" + of[0] + ", 4, " + of[1] + ")", x.overrides(of[0], 4, of[1]), of[2]);
        }
        // One between them that does not override the upper one is no way to it.
        x = houseWith("pack p { kind b under still { note { } } }", "pack q { kind c under b { guarded note { } } }",
            "pack r { kind d under c { guarded note { } } }");
        due.is("overrides", x.overrides(4, 4, 3), 0);
        due.is("overrides", x.overrides(5, 4, 4), 1);
        due.is("overrides", x.overrides(5, 4, 3), 0);
        // Nor is one between them that is not overridden, though it overrides the upper one.
        x = houseWith("pack p { kind b under still { note { } } kind c under b { note { } } }",
            "pack q { kind d under c { note { } } }");
        due.is("overrides", x.overrides(4, 4, 3), 1);
        due.is("overrides", x.overrides(5, 4, 4), 0);
        due.is("overrides", x.overrides(5, 4, 3), 0);
        // Two ways between: the way by two of them.
        x = houseWith("pack p { kind b under still { note { } } }", "pack q with house { kind c under b { note { } } }",
            "pack r with p { kind d under c { open note { } } }", "pack s with house { kind e under d { open note { } } }");
        due.is("by d alone", x.overrides(6, 4, 3), 1);
        due.is("seen", x.overrides(6, 4, 4), 1);
        due.is("seen", x.overrides(6, 4, 0), 1);
        due.is("not seen, not between", x.overrides(5, 4, 4), 0);
    }

    private static void overridesBeyond() {
        due.sentence("BEYOND: one of them, or the hook, isn't there.");
        StillHouse x = houseWith("pack p { kind b under still { open check { } open close { } } }");
        due.is("overrides", x.overrides(3, 0, 0), 1);
        due.is("overrides", x.overrides(3, 5, 0), 1);
        due.is("hook 6", x.overrides(3, 6, 0), -1);
        due.is("hook -1", x.overrides(3, -1, 0), -1);
        due.is("kind 4", x.overrides(4, 0, 0), -1);
        due.is("kind -1", x.overrides(-1, 0, 0), -1);
        due.is("other kind 4", x.overrides(3, 0, 4), -1);
        due.is("other kind -1", x.overrides(3, 0, -1), -1);
        due.is("beyond ahead of none", x.overrides(1, 0, 4), -1);
        for (int far : FAR) {
            due.is("overrides", x.overrides(far, 0, 0), -1);
            due.is("overrides", x.overrides(3, far, 0), -1);
            due.is("overrides", x.overrides(3, 0, far), -1);
        }
        due.is("found(-1)", x.found(-1), 7 + 15);
        due.is("found(-2)", x.found(-2), 0);
    }

    private static void overridesNone() {
        due.sentence("NONE: one of them has no such body.");
        StillHouse x = new StillHouse();
        due.is("both have", x.overrides(1, 4, 0), 1);
        due.is("k has none", x.overrides(1, 0, 0), -2);
        due.is("j has none", x.overrides(0, 0, 1), -2);
        due.is("none has", x.overrides(1, 0, 2), -2);
        due.is("k has none, is j", x.overrides(1, 0, 1), -2);
        due.is("not under, but both have", x.overrides(0, 4, 1), 0);
        due.is("found(-2)", x.found(-2), 4);
    }

    private static void chosenGoingUp() {
        due.sentence("going up from k: the first kind whose body of that hook is b, or overrides b.");
        StillHouse x = houseWith("pack p { kind b under still { note { } open step { } } kind c under b { } }",
            "pack q { kind d under c { note { } } }", "pack r with p { kind e under d { open step { } } }");
        // d's note does not override b's, which is therefore the first one that is met.
        due.is("chosen", x.chosen(3, 4, 5), 3);
        due.is("chosen", x.chosen(3, 4, 6), 3);
        due.is("chosen", x.chosen(5, 4, 6), 5);
        due.is("chosen", x.chosen(0, 4, 6), 0);
        due.is("chosen", x.chosen(3, 2, 6), 6);
        due.is("chosen", x.chosen(3, 2, 5), 3);
        due.is("chosen", x.chosen(0, 2, 5), 3);
        due.is("chosen", x.chosen(0, 2, 1), 0);
        due.is("chosen", x.chosen(0, 4, 2), 1);
        due.is("chosen", x.chosen(6, 2, 6), 6);
    }

    private static void chosenBeyond() {
        due.sentence("The kind whose body is CHOSEN for kind j's body of a hook and kind k. BEYOND.");
        StillHouse x = houseWith("pack p { kind b under still { open check { } open close { } } }");
        due.is("chosen", x.chosen(0, 0, 3), 3);
        due.is("chosen", x.chosen(3, 5, 3), 3);
        due.is("hook 6", x.chosen(0, 6, 3), -1);
        due.is("hook -1", x.chosen(0, -1, 3), -1);
        due.is("kind 4", x.chosen(4, 0, 3), -1);
        due.is("kind -1", x.chosen(-1, 0, 3), -1);
        due.is("other kind 4", x.chosen(0, 0, 4), -1);
        due.is("other kind -1", x.chosen(0, 0, -1), -1);
        due.is("beyond ahead of none", x.chosen(1, 0, 4), -1);
        for (int far : FAR) {
            due.is("chosen", x.chosen(far, 0, 0), -1);
            due.is("chosen", x.chosen(0, far, 0), -1);
            due.is("chosen", x.chosen(0, 0, far), -1);
        }
        due.is("found(-1)", x.found(-1), 7 + 15);
        due.is("found(-2)", x.found(-2), 0);
    }

    private static void chosenNone() {
        due.sentence("NONE: j has no such body, or k is neither j nor under it.");
        StillHouse x = houseWith("pack p { kind b under pot { open step { } } kind c under still { open step { } } }");
        due.is("j has none", x.chosen(1, 2, 3), -2);
        due.is("j has none, k is j", x.chosen(1, 2, 1), -2);
        due.is("k is j", x.chosen(3, 2, 3), 3);
        due.is("k is under j", x.chosen(0, 2, 3), 3);
        due.is("k is above j", x.chosen(3, 2, 1), -2);
        due.is("k is above j", x.chosen(3, 2, 0), -2);
        due.is("k is beside j", x.chosen(3, 2, 4), -2);
        due.is("k is beside j", x.chosen(4, 2, 3), -2);
        due.is("found(-2)", x.found(-2), 6);
    }

    private static void resolvedHasOrSees() {
        due.sentence("RESOLVED for a hook and a kind x: the first body of that hook, from x going up, that x has or MAY SEE (as a "
            + "body of its own would).");
        StillHouse x = houseWith("pack p { kind b under pot { } kind c under b { note { } } kind d under c { } }",
            "pack q { kind e under d { } kind f under e { last note { } } }", "pack r with house { kind g under f { } }");
        // b sees neither pot's nor still's note; c has its own; d sees c's; e sees none; f has its own; g sees pot's.
        int[] want = {0, 1, 1, -2, 4, 4, -2, 7, 1};
        for (int k = 0; k < want.length; k++) {
            due.is("resolved(" + k + ", 4, false)", x.resolved(k, 4, false), want[k]);
            due.is("resolved(" + k + ", 0, false)", x.resolved(k, 0, false), 0);
        }
        due.is("found(-2)", x.found(-2), 2);
        due.is("step", x.resolved(2, 2, false), 2);
        due.is("step", x.resolved(3, 2, false), 0);
    }

    private static void resolvedAbove() {
        due.sentence("ABOVE for x: likewise, beginning with the kind above x.");
        StillHouse x = houseWith("pack p { kind b under pot { } kind c under b { note { } } kind d under c { note { } } }",
            "pack q { kind e under d { } kind f under e { last note { } } }", "pack r with house { kind g under f { } }");
        int[] want = {-2, 0, 1, -2, -2, 4, -2, -2, 1};
        for (int k = 0; k < want.length; k++) {
            due.is("resolved(" + k + ", 4, true)", x.resolved(k, 4, true), want[k]);
            due.is("resolved(" + k + ", 0, true)", x.resolved(k, 0, true), k == 0 ? -2 : 0);
        }
        due.is("found(-2)", x.found(-2), 6);
    }

    private static void resolvedBeyond() {
        due.sentence("The kind whose body is RESOLVED (above: ABOVE) for a hook and kind k. BEYOND. NONE: there is none.");
        StillHouse x = houseWith("pack p { kind b under still { } }");
        for (int above = 0; above < 2; above++) {
            boolean up = above == 1;
            due.is("resolved", x.resolved(3, 5, up), 0);
            due.is("resolved", x.resolved(3, 4, up), -2);
            due.is("kind 4", x.resolved(4, 0, up), -1);
            due.is("kind -1", x.resolved(-1, 0, up), -1);
            due.is("hook 6", x.resolved(3, 6, up), -1);
            due.is("hook -1", x.resolved(3, -1, up), -1);
            for (int far : FAR) {
                due.is("resolved", x.resolved(far, 0, up), -1);
                due.is("resolved", x.resolved(0, far, up), -1);
            }
        }
        due.is("found(-1)", x.found(-1), 8 + 20);
        due.is("found(-2)", x.found(-2), 2);
    }

    private static void counts() {
        due.sentence("How many kinds are there (what 0), packs (1), apparatus (2), records (3).");
        StillHouse x = new StillHouse();
        due.taken(x, "pack p { kind b under still { } kind c under still { } }");
        due.is("make", x.make(0, 9), 0);
        due.is("make", x.make(0, 9), 1);
        due.is("make", x.make(0, 9), 2);
        due.is("charge", x.charge(0, 1, 1), 1);
        due.is("charge", x.charge(0, 1, 1), 2);
        int[] want = {5, 1, 3, 2};
        for (int what = 0; what < 4; what++) {
            due.is("count(" + what + ")", x.count(what), want[what]);
        }
    }

    private static void countBeyond() {
        due.sentence("BEYOND: another what.");
        StillHouse x = new StillHouse();
        due.is("count(3)", x.count(3), 0);
        due.is("count(4)", x.count(4), -1);
        due.is("count(-1)", x.count(-1), -1);
        due.is("outcome(3)", x.outcome(3), 0);
        due.is("outcome(4)", x.outcome(4), -1);
        due.is("outcome(-1)", x.outcome(-1), -1);
        due.is("all(6)", x.all(6), 0);
        due.is("all(7)", x.all(7), -1);
        due.is("all(-1)", x.all(-1), -1);
        for (int far : FAR) {
            due.is("count", x.count(far), -1);
            due.is("outcome", x.outcome(far), -1);
            due.is("all", x.all(far), -1);
        }
        due.is("found(-1)", x.found(-1), 6 + 15);
    }
}
