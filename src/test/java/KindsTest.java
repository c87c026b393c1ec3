/** Promises 5 to 11: retired packs, kinds, bodies, and whose body it is. */
public final class KindsTest {
    private static final Due due = new Due("KindsTest");

    public static void main(String[] args) {
        retiring();
        kinds();
        bodies();
        families();
        packagesBetween();
        packageNumbers();
        counts();
        due.end();
    }

    private static void retiring() {
        StillHouse x = new StillHouse();
        due.is("retire", x.retire(0), -1);
        due.taken(x, "pack p { kind k under still { } }");
        due.taken(x, "pack q { kind l under k { } }");
        due.is("retire", x.retire(-1), -1);
        due.is("retire", x.retire(2), -1);
        due.is("make", x.make(3, 5), 0);
        due.is("retire", x.retire(0), 1);
        due.is("retire", x.retire(0), 0);
        due.is("make", x.make(3, 5), -4);
        due.is("make of the other pack", x.make(4, 5), 1);
        due.is("act of an older one", x.act(0, 1), 0);
        due.is("kinds stay", x.count(0), 5);
        due.is("packs stay", x.count(1), 2);
        due.is("found", x.found(-1), 3);
        due.is("found", x.found(-4), 1);
    }

    private static void kinds() {
        StillHouse x = new StillHouse();
        due.taken(x, "pack p { kind k under column { open close { } note { } } kind l under still { } kind m under k { } }");
        int[][] of = {{0, -7, -7, 63, 0}, {0, 0, -7, 16, 1}, {0, 1, -7, 4, 2}, {1, 2, 0, 48, 3}, {1, 0, 0, 0, 1},
            {1, 3, 0, 0, 4}};
        for (int k = 0; k < of.length; k++) {
            for (int what = 0; what < 5; what++) {
                due.is("kind(" + k + ", " + what + ")", x.kind(k, what), of[k][what]);
            }
            due.is("kind", x.kind(k, 5), -1);
            due.is("kind", x.kind(k, -1), -1);
        }
        due.is("kind", x.kind(6, 0), -1);
        due.is("kind", x.kind(-1, 0), -1);
        due.is("kind", x.kind(Integer.MAX_VALUE, Integer.MIN_VALUE), -1);
        due.is("-7 is no finding", x.found(-1), 15);
    }

    private static void bodies() {
        StillHouse x = new StillHouse();
        due.taken(x, "pack p { kind k under still { open last step { less 5 { up; say 1; } else { try { } rescue { add 1; } } }"
            + " guarded before { } last note { fail 1; } } }");
        int[][] of = {{-2, -2, -2}, {1, 0, 0}, {0, 1, 5}, {-2, -2, -2}, {2, 1, 1}, {-2, -2, -2}};
        for (int hook = 0; hook < 6; hook++) {
            for (int what = 0; what < 3; what++) {
                due.is("body(3, " + hook + ", " + what + ")", x.body(3, hook, what), of[hook][what]);
            }
            due.is("body", x.body(3, hook, 3), -1);
            due.is("body", x.body(3, hook, -1), -1);
        }
        due.is("body", x.body(3, 6, 0), -1);
        due.is("body", x.body(3, -1, 0), -1);
        due.is("body", x.body(4, 0, 0), -1);
        due.is("body", x.body(-1, 0, 0), -1);
        due.is("found", x.found(-2), 9);
        due.is("found", x.found(-1), 16);
    }

    private static void families() {
        StillHouse x = new StillHouse();
        due.taken(x, "pack p { kind k under pot { open step { } note { } } kind l under k { open step { } } "
            + "kind m under still { open step { } } }");
        due.is("overrides", x.overrides(3, 2, 0), 1);
        due.is("overrides", x.overrides(4, 2, 3), 1);
        due.is("overrides", x.overrides(4, 2, 0), 1);
        due.is("overrides", x.overrides(3, 2, 4), 0);
        due.is("overrides", x.overrides(3, 2, 3), 0);
        due.is("overrides", x.overrides(5, 2, 3), 0);
        due.is("overrides", x.overrides(2, 2, 5), 0);
        due.is("overrides", x.overrides(1, 4, 0), 1);
        due.is("overrides", x.overrides(3, 4, 1), 0);
        due.is("overrides", x.overrides(3, 1, 0), -2);
        due.is("overrides", x.overrides(0, 1, 3), -2);
        due.is("overrides", x.overrides(6, 1, 3), -1);
        due.is("overrides", x.overrides(3, 1, 6), -1);
        due.is("overrides", x.overrides(-1, 1, 3), -1);
        due.is("overrides", x.overrides(3, 6, 3), -1);
        due.is("overrides", x.overrides(3, -1, 3), -1);

        due.is("chosen", x.chosen(0, 2, 4), 4);
        due.is("chosen", x.chosen(3, 2, 4), 4);
        due.is("chosen", x.chosen(3, 2, 3), 3);
        due.is("chosen", x.chosen(0, 2, 3), 3);
        due.is("chosen", x.chosen(0, 2, 0), 0);
        due.is("chosen", x.chosen(0, 4, 3), 1);
        due.is("chosen", x.chosen(0, 4, 4), 1);
        due.is("chosen", x.chosen(3, 4, 4), 3);
        due.is("chosen", x.chosen(0, 0, 4), 0);
        due.is("chosen", x.chosen(3, 2, 5), -2);
        due.is("chosen", x.chosen(4, 2, 3), -2);
        due.is("chosen", x.chosen(4, 0, 4), -2);
        due.is("chosen", x.chosen(6, 2, 4), -1);
        due.is("chosen", x.chosen(0, 2, 6), -1);
        due.is("chosen", x.chosen(0, 2, -1), -1);
        due.is("chosen", x.chosen(0, 6, 4), -1);
        due.is("chosen", x.chosen(4, -1, 4), -1);

        due.is("resolved", x.resolved(4, 2, false), 4);
        due.is("resolved", x.resolved(4, 2, true), 3);
        due.is("resolved", x.resolved(4, 4, false), 3);
        due.is("resolved", x.resolved(3, 4, false), 3);
        due.is("resolved", x.resolved(3, 4, true), -2);
        due.is("resolved", x.resolved(5, 4, false), -2);
        due.is("resolved", x.resolved(2, 4, false), 1);
        due.is("resolved", x.resolved(1, 4, true), 0);
        due.is("resolved", x.resolved(0, 4, false), 0);
        due.is("resolved", x.resolved(0, 4, true), -2);
        due.is("resolved", x.resolved(6, 4, true), -1);
        due.is("resolved", x.resolved(-1, 4, false), -1);
        due.is("resolved", x.resolved(0, 6, false), -1);
        due.is("resolved", x.resolved(0, -1, false), -1);
    }

    /** A body overrides one it may not see, by one between them that does. */
    private static void packagesBetween() {
        StillHouse x = new StillHouse();
        due.taken(x, "pack p { kind b under still { note { } } }");
        due.taken(x, "pack q with p { kind c under b { open note { } } }");
        due.taken(x, "pack r { kind d under c { open note { up; } } }");
        due.is("d sees c", x.overrides(5, 4, 4), 1);
        due.is("d overrides b by c", x.overrides(5, 4, 3), 1);
        due.is("d does not override the house's", x.overrides(5, 4, 0), 0);
        due.is("chosen", x.chosen(3, 4, 5), 5);
        due.is("chosen", x.chosen(0, 4, 5), 0);
        due.is("resolved", x.resolved(5, 4, true), 4);

        // Between them a body that does not override the upper one is no bridge.
        x = new StillHouse();
        due.taken(x, "pack p { kind b under still { note { } } }");
        due.taken(x, "pack q { kind c under b { note { } } }");
        due.taken(x, "pack r with p { kind d under c { note { up; } } }");
        due.taken(x, "pack s with house { kind e under d { note { up; } } }");
        due.taken(x, "pack t with q { kind f under e { note { up; call note; } } }");
        due.is("overrides", x.overrides(4, 4, 3), 0);
        due.is("overrides", x.overrides(5, 4, 4), 0);
        due.is("overrides", x.overrides(5, 4, 3), 1);
        due.is("overrides", x.overrides(5, 4, 0), 0);
        due.is("overrides", x.overrides(6, 4, 0), 1);
        due.is("overrides", x.overrides(6, 4, 5), 0);
        due.is("overrides", x.overrides(7, 4, 4), 1);
        due.is("overrides", x.overrides(7, 4, 6), 0);
        due.is("chosen", x.chosen(0, 4, 7), 6);
        due.is("chosen", x.chosen(3, 4, 7), 5);
        due.is("chosen", x.chosen(4, 4, 7), 7);
        due.is("chosen", x.chosen(4, 4, 6), 4);
        due.is("resolved", x.resolved(5, 4, true), 3);
        due.is("resolved", x.resolved(6, 4, true), 0);
        due.is("resolved", x.resolved(7, 4, true), 4);
    }

    private static void packageNumbers() {
        StillHouse x = new StillHouse();
        due.taken(x, "pack p { kind b under still { } }");
        due.taken(x, "pack q with p { kind c under still { } }");
        due.taken(x, "pack p { kind d under still { } }");
        due.taken(x, "pack r with p { kind e under still { } }");
        due.taken(x, "pack s with q { kind f under still { } }");
        due.taken(x, "pack p with q { kind g under still { } }");
        due.taken(x, "pack t with p { kind h under still { } }");
        due.taken(x, "pack house { kind i under still { } }");
        due.taken(x, "pack u with house { kind j under still { } }");
        int[] homes = {1, 1, 2, 2, 1, 1, 1, 3, 0};
        for (int i = 0; i < homes.length; i++) {
            due.is("kind(" + (3 + i) + ", 0)", x.kind(3 + i, 0), homes[i]);
            due.is("kind(" + (3 + i) + ", 2)", x.kind(3 + i, 2), i);
        }
    }

    private static void counts() {
        StillHouse x = new StillHouse();
        due.taken(x, "pack p { kind b under still { } kind c under b { } }");
        due.is("make", x.make(0, 1), 0);
        due.is("make", x.make(0, 1), 1);
        due.is("make", x.make(0, 1), 2);
        for (int i = 0; i < 4; i++) {
            due.is("charge", x.charge(0, 0, 0), 0);
        }
        due.is("count", x.count(0), 5);
        due.is("count", x.count(1), 1);
        due.is("count", x.count(2), 3);
        due.is("count", x.count(3), 4);
        due.is("count", x.count(4), -1);
        due.is("count", x.count(-1), -1);
    }
}
