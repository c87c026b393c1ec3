/** The boundary cases of packages, of the faults 2 to 7 and of FULL (Terms 2), and of promise 5. */
public final class EdgesOfFaultsTest {
    private static final Due due = new Due("EdgesOfFaultsTest");
    private static final String[] HOOKS = {"check", "before", "step", "after", "note", "close"};
    private static final String[] RIGHTS = {"open ", "guarded ", ""};
    private static final String[] BLOCKS = {"%s", "less 5 { %s }", "less 5 { } else { %s }", "try { %s } rescue { }",
        "try { } rescue { %s }"};

    public static void main(String[] args) {
        packages();
        packageOfWith();
        packageOfHouse();
        nameAfterWith();
        nameOfKind();
        nameAfterUnder();
        secondBody();
        narrowerRight();
        rightsSeenAlone();
        lastOnes();
        lastAheadOfRight();
        upWithoutBody();
        callWithoutBody();
        refuseInCheckAlone();
        firstPlaceOfAny();
        lowestNumber();
        fullOfKinds();
        fullOfPacks();
        fullBehindFaults();
        fullEmptiesTheTape();
        retired();
        retiredBeyond();
        due.end();
    }

    private static StillHouse houseWith(String... packs) {
        StillHouse x = new StillHouse();
        for (String pack : packs) {
            due.taken(x, pack);
        }
        return x;
    }

    private static void packages() {
        due.sentence("A pack has a package of its own (packages are numbered 1, 2, .. as they come)");
        StillHouse x = new StillHouse();
        for (int i = 0; i < 12; i++) {
            String name = "k" + (char) ('b' + i);
            due.taken(x, "pack p { kind " + name + " under still { } }");
            due.is("package", x.kind(3 + i, 0), i + 1);
            due.is("pack", x.kind(3 + i, 2), i);
        }
        x = houseWith("pack p { kind b under still { } kind c under still { } }", "pack q with p { kind d under still { } }",
            "pack r { kind e under still { } }");
        int[] homes = {0, 0, 0, 1, 1, 1, 2};
        for (int k = 0; k < homes.length; k++) {
            due.is("package of kind " + k, x.kind(k, 0), homes[k]);
        }
    }

    private static void packageOfWith() {
        due.sentence("with NAME: that of the latest pack of this name, but package 0 for house.");
        StillHouse x = houseWith("pack p { kind b under still { } }", "pack p { kind c under still { } }",
            "pack q with p { kind d under still { } }", "pack p with p { kind e under still { } }",
            "pack p { kind f under still { } }", "pack r with p { kind g under still { } }",
            "pack s with q { kind h under still { } }");
        int[] homes = {1, 2, 2, 2, 3, 3, 2};
        for (int i = 0; i < homes.length; i++) {
            due.is("package of kind " + (3 + i), x.kind(3 + i, 0), homes[i]);
        }
    }

    private static void packageOfHouse() {
        due.sentence("(house is always there)");
        StillHouse x = houseWith("pack p with house { kind b under still { note { up; } } }",
            "pack house { kind c under still { } }", "pack q with house { kind d under still { note { up; } } }");
        due.is("package", x.kind(3, 0), 0);
        due.is("a pack of this name is another one", x.kind(4, 0), 1);
        due.is("package", x.kind(5, 0), 0);
    }

    private static void nameAfterWith() {
        due.sentence("2 NAME: of the pack after with, without such a pack");
        due.fault("pack p with ^q { kind k under still { } }", 2);
        due.fault("pack p with ^p { kind k under still { } }", 2);
        due.fault("pack p with ^k { kind k under still { } }", 2);
        due.fault("pack p with ^pot { kind k under still { } }", 2);
        due.fault("pack p with ^hous { kind k under still { } }", 2);
        due.fault("pack p with ^houses { kind k under still { } }", 2);
        StillHouse x = houseWith("pack abcdefgh { kind b under still { } }");
        due.fault(x, "pack p with ^abcdefgi { kind c under still { } }", 2);
        due.fault(x, "pack p with ^bbcdefgh { kind c under still { } }", 2);
        due.fault(x, "pack p with ^abcdefg { kind c under still { } }", 2);
        due.fault(x, "pack p { kind c under ^abcdefgh { } }", 2);
        due.fault(x, "pack p with ^p { kind c under still { } }", 2);
        due.taken(x, "pack p with abcdefgh { kind c under still { } }");
        due.taken(x, "pack q with p { kind d under still { } }");
        due.is("retire", x.retire(0), 1);
        due.taken(x, "pack r with abcdefgh { kind e under still { } }");
        due.is("a retired pack is there", x.kind(6, 0), 1);
    }

    private static void nameOfKind() {
        due.sentence("of a kind that has a name that is there already");
        String[] house = {"still", "pot", "column"};
        for (String name : house) {
            due.fault("pack p { kind ^" + name + " under still { } }", 2);
            due.taken(new StillHouse(), "pack p { kind " + name + "s under still { } }");
            due.taken(new StillHouse(), "pack p { kind " + name.substring(1) + " under still { } }");
            due.taken(new StillHouse(), "pack " + name + " { kind k under still { } }");
        }
        due.fault("pack p { kind k under still { } kind ^k under still { } }", 2);
        due.fault("pack p { kind k under still { } kind l under still { } kind ^k under l { } }", 2);
        due.taken(new StillHouse(), "pack p { kind k under still { } kind l under still { } kind p under still { } }");
        StillHouse x = houseWith("pack p { kind abcdefgh under still { } }");
        due.fault(x, "pack q { kind ^abcdefgh under still { } }", 2);
        due.is("retire", x.retire(0), 1);
        due.fault(x, "pack q { kind ^abcdefgh under still { } }", 2);
        due.taken(x, "pack q { kind abcdefgi under still { } kind bbcdefgh under still { } kind abcdefg under still { } }");
        // Names of other lengths or orders are other names, whichever letters they begin or end with.
        String[] alike = {"b", "ab", "aab", "ba", "aa", "aaa", "aaaaaaaa", "z", "az", "za", "zzzzzzzz", "azzzzzzz", "zzzzzzza"};
        for (String one : alike) {
            due.fault("pack p { kind " + one + " under still { } kind ^" + one + " under still { } }", 2);
            for (String other : alike) {
                if (!other.equals(one)) {
                    due.taken(new StillHouse(), "pack p { kind " + one + " under still { } kind " + other + " under still { } }");
                    due.fault("pack p { kind " + one + " under still { } kind k under ^" + other + " { } }", 2);
                    due.fault(houseWith("pack " + one + " { kind k under still { } }"),
                        "pack p with ^" + other + " { kind l under still { } }", 2);
                }
            }
        }
    }

    private static void nameAfterUnder() {
        due.sentence("of a kind after under that isn't there (those of this pack ahead of it are)");
        due.fault("pack p { kind k under ^nobody { } }", 2);
        due.fault("pack p { kind k under ^p { } }", 2);
        due.fault("pack p { kind k under ^house { } }", 2);
        due.fault("pack p { kind k under ^k { } }", 2);
        due.fault("pack p { kind k under ^l { } kind l under still { } }", 2);
        due.fault("pack p { kind k under still { } kind l under ^m { } kind m under k { } }", 2);
        due.taken(new StillHouse(), "pack p { kind k under still { } kind m under k { } kind l under m { } }");
        String[] house = {"still", "pot", "column"};
        for (int k = 0; k < house.length; k++) {
            StillHouse x = houseWith("pack p { kind b under " + house[k] + " { } }", "pack q { kind c under b { } }");
            due.is("above", x.kind(3, 1), k);
            due.is("above", x.kind(4, 1), 3);
        }
        StillHouse x = new StillHouse();
        due.fault(x, "pack p { kind b under still { } kind c under ^d { } }", 2);
        due.fault(x, "pack q { kind c under ^b { } }", 2);
    }

    private static void secondBody() {
        due.sentence("3 a second BODY of a hook in one kind (at its hook's word)");
        for (String hook : HOOKS) {
            due.fault("pack p { kind k under still { open " + hook + " { } open last ^" + hook + " { } } }", 3);
            for (String other : HOOKS) {
                if (!other.equals(hook)) {
                    due.taken(new StillHouse(), "pack p { kind k under still { open " + hook + " { } open " + other + " { } } }");
                    due.fault("pack p { kind k under still { open " + hook + " { } open " + other + " { } open ^" + hook
                        + " { } } }", 3);
                }
            }
            due.taken(new StillHouse(), "pack p { kind k under still { open " + hook + " { } } kind l under k { open " + hook
                + " { } } kind m under still { open " + hook + " { } } }");
        }
    }

    private static void narrowerRight() {
        due.sentence("4 RIGHT: a BODY whose right is narrower (OPEN is widest, the PACKAGE's narrowest) than that of one that it "
            + "overrides (at its hook's word)");
        for (int upper = 0; upper < 3; upper++) {
            for (int lower = 0; lower < 3; lower++) {
                String head = "pack p { kind k under still { " + RIGHTS[upper] + "note { } } kind m under k { } kind l under m { "
                    + RIGHTS[lower];
                if (lower <= upper) {
                    due.taken(new StillHouse(), head + "note { } } }");
                    due.taken(new StillHouse(), head + "last note { } } }");
                } else {
                    due.fault(head + "^note { } } }", 4);
                    due.fault(head + "last ^note { } } }", 4);
                }
            }
        }
        int[] house = {0, 1, 1, 1, 2, 0};
        for (int hook = 0; hook < 6; hook++) {
            for (int right = 0; right < 3; right++) {
                String head = "pack p with house { kind k under still { " + RIGHTS[right];
                if (right <= house[hook]) {
                    due.taken(new StillHouse(), head + HOOKS[hook] + " { } } }");
                } else {
                    due.fault(head + "^" + HOOKS[hook] + " { } } }", 4);
                }
            }
        }
    }

    private static void rightsSeenAlone() {
        due.sentence("A body MAY SEE another one of a kind above its own if that is OPEN or GUARDED, or both kinds have one package.");
        for (int upper = 0; upper < 3; upper++) {
            for (int lower = 0; lower < 3; lower++) {
                StillHouse x = houseWith("pack p { kind k under still { " + RIGHTS[upper] + "note { } } }");
                String head = "pack q { kind l under k { " + RIGHTS[lower];
                if (lower <= upper) {
                    due.taken(x, head + "note { } } }");
                    due.is("overrides", x.overrides(4, 4, 3), upper == 2 ? 0 : 1);
                } else {
                    due.fault(x, head + "^note { } } }", 4);
                }
            }
        }
    }

    private static void lastOnes() {
        due.sentence("5 LAST: a BODY that overrides a last one (there, too, ahead of 4)");
        for (int right = 0; right < 3; right++) {
            String last = RIGHTS[right] + "last note { } } ";
            String not = RIGHTS[right] + "note { } } ";
            due.fault("pack p { kind k under still { " + last + "kind l under k { " + RIGHTS[right] + "^note { } } }", 5);
            due.fault("pack p { kind k under still { " + last + "kind l under k { } kind m under l { open last ^note { } } }", 5);
            due.taken(new StillHouse(), "pack p { kind k under still { " + not + "kind l under k { " + last + "}");
            due.taken(new StillHouse(), "pack p { kind k under still { " + last + "kind l under still { " + not + "}");
            StillHouse x = houseWith("pack p { kind k under still { " + last + "}");
            if (right < 2) {
                due.fault(x, "pack q { kind l under k { open ^note { } } }", 5);
            } else {
                due.taken(x, "pack q { kind l under k { note { } } }");
                due.fault(x, "pack r with p { kind m under l { ^note { } } }", 5);
            }
        }
        due.fault("pack p { kind k under column { open ^step { } } }", 5);
        due.taken(new StillHouse(), "pack p { kind k under column { open before { } open after { } } }");
        due.taken(new StillHouse(), "pack p { kind k under pot { open step { } } }");
    }

    private static void lastAheadOfRight() {
        due.sentence("Of several at one place the lowest number, but 5 ahead of 4.");
        due.fault("pack p { kind k under still { open last note { } } kind l under k { ^note { } } }", 5);
        due.fault("pack p { kind k under still { open note { } } kind l under k { ^note { } } }", 4);
        due.fault("pack p { kind k under column { ^step { } } }", 5);
        // The last one and the wider one may be two.
        due.fault("pack p { kind k under still { guarded note { } } kind l under k { open last note { } } "
            + "kind m under l { guarded ^note { } } }", 5);
    }

    private static void upWithoutBody() {
        due.sentence("6 up without a body ABOVE");
        for (String block : BLOCKS) {
            String up = String.format(block, "up;");
            String wrong = String.format(block, "^up;");
            for (String hook : HOOKS) {
                String head = " { kind k under pot { open " + hook + " { say 1; ";
                due.taken(new StillHouse(), "pack p with house" + head + up + " } } }");
                if (hook.equals("note")) {
                    due.fault("pack p" + head + wrong + " } } }", 6);
                } else {
                    due.taken(new StillHouse(), "pack p" + head + up + " } } }");
                }
            }
            StillHouse x = houseWith("pack p { kind k under still { note { } } }");
            due.fault(x, "pack q { kind l under k { note { " + wrong + " } } }", 6);
            due.taken(x, "pack q with p { kind l under k { note { " + up + " } } }");
            due.taken(x, "pack r { kind m under k { guarded note { } } }");
            due.taken(x, "pack s { kind n under m { guarded note { " + up + " } } }");
        }
    }

    private static void callWithoutBody() {
        due.sentence("call without one RESOLVED (at up, at the hook's word)");
        for (String block : BLOCKS) {
            String right = String.format(block, "call note;");
            String wrong = String.format(block, "call ^note;");
            due.fault("pack p { kind k under pot { open step { " + wrong + " } } }", 6);
            due.taken(new StillHouse(), "pack p with house { kind k under pot { open step { " + right + " } } }");
            due.taken(new StillHouse(), "pack p { kind k under pot { open step { " + right + " } note { } } }");
            due.taken(new StillHouse(), "pack p { kind k under pot { note { } open step { " + right + " } } }");
            due.taken(new StillHouse(), "pack p { kind k under pot { note { " + right + " } } }");
            due.fault("pack p { kind k under pot { open step { " + wrong + " } } kind l under k { note { } } }", 6);
            StillHouse x = houseWith("pack p { kind k under still { note { } } }");
            due.fault(x, "pack q { kind l under k { open step { " + wrong + " } } }", 6);
            due.taken(x, "pack q with p { kind l under k { open step { " + right + " } } }");
        }
        for (String hook : HOOKS) {
            if (!hook.equals("note")) {
                due.taken(new StillHouse(), "pack p { kind k under pot { note { call " + hook + "; } } }");
            }
        }
    }

    private static void refuseInCheckAlone() {
        due.sentence("7 refuse in another BODY than of check.");
        for (String block : BLOCKS) {
            for (String hook : HOOKS) {
                String head = "pack p { kind k under still { open " + hook + " { ";
                if (hook.equals("check")) {
                    due.taken(new StillHouse(), head + String.format(block, "refuse 5;") + " } } }");
                } else {
                    due.fault(head + String.format(block, "^refuse 5;") + " } } }", 7);
                }
            }
        }
    }

    /** Each fault stands ahead of one of each other number. */
    private static void firstPlaceOfAny() {
        due.sentence("Then, the first place of any");
        String[] bodies = {"open step { } open ^step { } ", "guarded ^check { } ", "open ^after { } ",
            "open before { call ^note; } ", "open close { ^refuse 1; } "};
        String ahead = "pack p { kind b under still { open last after { } } }";
        for (int i = 0; i < bodies.length; i++) {
            for (int j = 0; j < bodies.length; j++) {
                if (i != j) {
                    StillHouse x = houseWith(ahead);
                    due.fault(x, "pack q { kind k under b { " + bodies[i] + bodies[j].replace("^", "")
                        + "} kind k under k { } }", 3 + i);
                }
            }
            StillHouse x = houseWith(ahead);
            due.fault(x, "pack q with ^r { kind k under b { " + bodies[i].replace("^", "") + "} }", 2);
            due.fault(x, "pack q { kind ^b under b { " + bodies[i].replace("^", "") + "} }", 2);
            due.fault(x, "pack q { kind k under ^q { " + bodies[i].replace("^", "") + "} }", 2);
        }
        due.fault("pack p { kind k under still { note { ^up; refuse 1; } note { } check { } } }", 6);
        due.fault("pack p { kind k under still { note { ^refuse 1; up; } check { } note { } } }", 7);
        due.fault("pack p { kind k under still { note { less 5 { ^up; } else { refuse 1; } } } }", 6);
        due.fault("pack p { kind k under still { note { try { ^refuse 1; } rescue { up; } } } }", 7);
        due.fault("pack p { kind k under still { ^check { } note { up; } } }", 4);
        due.fault("pack p { kind k under still { note { ^up; } check { } } }", 6);
        due.fault("pack p { kind k under ^l { } kind l under l { } }", 2);
        due.fault("pack p { kind ^pot under l { } }", 2);
    }

    private static void lowestNumber() {
        due.sentence("Of several at one place the lowest number");
        due.fault("pack p { kind k under still { open check { } ^check { } } }", 3);
        due.fault("pack p { kind k under still { open last check { } ^check { } } }", 3);
        // At the first one of them there is no second one yet.
        due.fault("pack p { kind k under still { ^check { } check { } } }", 4);
        due.fault("pack p { kind l under still { open last note { } } kind k under l { ^note { } open note { } } }", 5);
    }

    private static String kindsNamed(char first, int many) {
        StringBuilder text = new StringBuilder("pack p {");
        for (int i = 0; i < many; i++) {
            text.append(" kind ").append(first).append((char) ('b' + i)).append(" under still { }");
        }
        return text.append(" }").toString();
    }

    private static void fullOfKinds() {
        due.sentence("FULL: there would be more than 40 kinds");
        for (int room = 1; room <= 7; room++) {
            StillHouse x = houseWith(kindsNamed('p', 10), kindsNamed('q', 10), kindsNamed('r', 10));
            if (room < 7) {
                due.taken(x, kindsNamed('s', 7 - room));
            }
            due.is("one kind too many", Due.pack(x, kindsNamed('t', room + 1)), -3);
            due.is("count(0)", x.count(0), 40 - room);
            due.taken(x, kindsNamed('t', room));
            due.is("count(0)", x.count(0), 40);
            due.is("the package's number was not used up", x.kind(39, 0), x.count(1));
            due.is("the 41st", Due.pack(x, kindsNamed('u', 1)), -3);
            due.is("found(-3)", x.found(-3), 2);
        }
    }

    private static void fullOfPacks() {
        due.sentence("(behind all faults; or 12 packs)");
        StillHouse x = new StillHouse();
        for (int i = 1; i <= 12; i++) {
            due.taken(x, kindsNamed((char) ('a' + i), 1));
            due.is("count(1)", x.count(1), i);
        }
        due.is("the 13th", Due.pack(x, kindsNamed('z', 1)), -3);
        due.is("the 13th, of a package that is there", Due.pack(x, "pack q with p { kind zz under still { } }"), -3);
        due.is("count(1)", x.count(1), 12);
        due.is("count(0)", x.count(0), 15);
        due.is("retire", x.retire(3), 1);
        due.is("a retired pack gives no room", Due.pack(x, kindsNamed('z', 1)), -3);
        due.is("found(-3)", x.found(-3), 3);
    }

    private static void fullBehindFaults() {
        due.sentence("FULL: there would be more than 40 kinds (behind all faults; or 12 packs).");
        String[] faults = {"pack q { kind k under still { } ^", "pack q { kind k under still { } kind ^k under still { } }",
            "pack q { kind k under still { note { } ^note { } } }", "pack q { kind k under still { ^check { } } }",
            "pack q { kind k under column { open ^step { } } }", "pack q { kind k under still { note { ^up; } } }",
            "pack q { kind k under still { note { ^refuse 1; } } }"};
        StillHouse x = houseWith(kindsNamed('p', 10), kindsNamed('q', 10), kindsNamed('r', 10), kindsNamed('s', 7));
        for (int i = 0; i < faults.length; i++) {
            due.fault(x, faults[i], i + 1);
        }
        due.is("found(-3)", x.found(-3), 0);
        x = new StillHouse();
        for (int i = 1; i <= 12; i++) {
            due.taken(x, kindsNamed((char) ('a' + i), 1));
        }
        for (int i = 0; i < faults.length; i++) {
            due.fault(x, faults[i], i + 1);
        }
        due.is("found(-3)", x.found(-3), 0);
    }

    private static void fullEmptiesTheTape() {
        due.sentence("FULL (the tape is empty then, too).");
        StillHouse x = new StillHouse();
        for (int i = 1; i <= 12; i++) {
            due.taken(x, "pack p{kind b" + (char) ('a' + i) + " under still{}}");
        }
        String ahead = Tale.of(x);
        due.is("a full one", Due.pack(x, "pack new { kind k under still { } }"), -3);
        due.is("nothing changes", Tale.of(x).equals(ahead) ? 1 : 0, 1);
        due.is("feed", x.feed(32, 3), 3);
        due.is("pack of a blank", x.pack(), 1);
        due.fault(x, "pack q with ^new { kind k under still { } }", 2);
        due.fault(x, "pack q { kind l under ^k { } }", 2);
    }

    private static void retired() {
        due.sentence("Pack i (0, 1, ..) is retired: 1 if it was not, else 0: no new apparatus is made of its kinds.");
        StillHouse x = houseWith("pack p { kind b under still { } kind c under b { } }", "pack q with p { kind d under c { } }");
        for (int k = 0; k < 6; k++) {
            due.is("make", x.make(k, 1), k);
        }
        due.is("retire", x.retire(0), 1);
        due.is("retire", x.retire(0), 0);
        due.is("make", x.make(3, 1), -4);
        due.is("make", x.make(4, 1), -4);
        due.is("make of another pack's kind under them", x.make(5, 1), 6);
        due.is("make of the house's kind", x.make(2, 1), 7);
        due.is("an apparatus that is there", x.act(4, 1), 0);
        due.is("retire", x.retire(1), 1);
        due.is("make", x.make(5, 1), -4);
        due.is("retire", x.retire(1), 0);
        due.is("retire", x.retire(0), 0);
        due.taken(x, "pack p { kind e under b { } }");
        due.is("make of a new pack's kind of this name", x.make(6, 1), 8);
    }

    private static void retiredBeyond() {
        due.sentence("BEYOND: there is no such pack.");
        StillHouse x = new StillHouse();
        due.is("retire(0)", x.retire(0), -1);
        for (int packs = 1; packs <= 12; packs++) {
            due.taken(x, kindsNamed((char) ('a' + packs), 1));
            due.is("retire(" + packs + ")", x.retire(packs), -1);
            due.is("retire(" + (packs - 1) + ")", x.retire(packs - 1), 1);
        }
        due.is("retire(-1)", x.retire(-1), -1);
        due.is("retire", x.retire(Integer.MIN_VALUE), -1);
        due.is("retire", x.retire(Integer.MAX_VALUE), -1);
        due.is("found(-1)", x.found(-1), 16);
    }
}
