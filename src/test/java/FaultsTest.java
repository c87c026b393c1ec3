/** The faults 2 to 7 of packs, and which of several is told. */
public final class FaultsTest {
    private static final Due due = new Due("FaultsTest");

    public static void main(String[] args) {
        names();
        seconds();
        rights();
        lasts();
        ups();
        calls();
        refusals();
        deep();
        firstOfSeveral();
        full();
        due.end();
    }

    private static void names() {
        due.fault("pack p with ^q { kind k under still { } }", 2);
        due.fault("pack p with ^p { kind k under still { } }", 2);
        due.fault("pack p with ^still { kind k under still { } }", 2);
        due.fault("pack p { kind ^still under nobody { } }", 2);
        due.fault("pack p { kind ^column under column { } }", 2);
        due.fault("pack p { kind k under still { } kind ^k under still { } }", 2);
        due.fault("pack p { kind k under ^k { } }", 2);
        due.fault("pack p { kind k under ^l { } kind l under still { } }", 2);
        due.fault("pack p { kind k under ^p { } }", 2);
        due.fault("pack p { kind k under ^house { } }", 2);
        due.fault("pack p { kind k under ^stil { } }", 2);
        due.fault("pack p { kind k under ^stills { } }", 2);
        StillHouse x = new StillHouse();
        due.fault(x, "pack p { kind k under still { } kind ^k under still { } }", 2);
        due.fault(x, "pack q with ^p { kind k under still { } }", 2);
        due.taken(x, "pack p { kind k under still { } kind l under k { } }");
        due.fault(x, "pack q { kind ^l under still { } }", 2);
        due.is("retire", x.retire(0), 1);
        due.taken(x, "pack q with p { kind m under l { } }");
        due.is("home", x.kind(5, 0), 1);
    }

    private static void seconds() {
        due.fault("pack p { kind k under still { open step { } open ^step { } } }", 3);
        due.fault("pack p { kind k under still { open step { } open check { } ^step { } } }", 3);
        due.fault("pack p { kind k under column { note { } last ^note { } } }", 3);
        due.fault("pack p { kind k under still { note { } ^note { refuse 1; up; } note { } } }", 3);
        due.taken(new StillHouse(), "pack p { kind k under still { note { } } kind l under k { note { } } }");
    }

    private static void rights() {
        due.fault("pack p { kind k under still { ^check { } } }", 4);
        due.fault("pack p { kind k under still { guarded ^check { } } }", 4);
        due.fault("pack p { kind k under still { last ^after { } } }", 4);
        due.fault("pack p { kind k under still { guarded ^close { } } }", 4);
        due.taken(new StillHouse(), "pack p { kind k under still { open check { } guarded before { } open step { } } }");
        // Another package's note is not overridden, so it may have any right; the house's own is.
        due.taken(new StillHouse(), "pack p { kind k under still { note { } } kind l under k { open note { } } }");
        due.taken(new StillHouse(), "pack p with house { kind k under still { note { } } }");
        due.fault("pack p { kind k under still { guarded note { } } kind l under k { ^note { } } }", 4);
        due.fault("pack p { kind k under still { open note { } } kind l under k { guarded ^note { } } }", 4);
        // Above one that may be any, an upper one counts too.
        due.fault("pack p { kind k under still { open step { } } kind l under k { guarded ^step { } } }", 4);
    }

    private static void lasts() {
        due.fault("pack p { kind k under column { open ^step { } } }", 5);
        due.fault("pack p { kind k under column { ^step { } } }", 5);
        due.fault("pack p { kind k under column { } kind l under k { guarded last ^step { } } }", 5);
        due.fault("pack p { kind k under still { last note { } } kind l under k { ^note { } } }", 5);
        due.fault("pack p { kind k under still { open last note { } } kind l under k { ^note { } } }", 5);
        StillHouse x = new StillHouse();
        due.taken(x, "pack p { kind k under still { last note { } } }");
        // Not seen, so not overridden.
        due.taken(x, "pack q { kind l under k { note { } } }");
        due.fault(x, "pack r with p { kind m under l { ^note { } } }", 5);
        due.is("overrides", x.overrides(4, 4, 3), 0);
    }

    private static void ups() {
        due.fault("pack p { kind k under still { note { ^up; } } }", 6);
        due.fault("pack p { kind k under column { note { say 1; less 5 { } else { try { } rescue { ^up; } } } } }", 6);
        due.taken(new StillHouse(), "pack p with house { kind k under still { note { up; } } }");
        due.taken(new StillHouse(), "pack p { kind k under still { open check { up; } } }");
        due.taken(new StillHouse(), "pack p { kind k under still { note { } } kind l under k { note { up; } } }");
        StillHouse x = new StillHouse();
        due.taken(x, "pack p { kind k under still { note { } } }");
        due.fault(x, "pack q { kind l under k { note { ^up; } } }", 6);
        due.taken(x, "pack q { kind l under k { open note { } } }");
        due.taken(x, "pack r { kind m under l { open note { up; } } }");
    }

    private static void calls() {
        due.fault("pack p { kind k under still { open step { call ^note; } } }", 6);
        due.fault("pack p { kind k under still { open step { less 3 { call ^note; } } } kind l under k { note { } } }", 6);
        due.taken(new StillHouse(), "pack p { kind k under still { open step { call note; } note { } } }");
        due.taken(new StillHouse(), "pack p { kind k under still { note { call note; } } }");
        due.taken(new StillHouse(), "pack p { kind k under still { note { } } kind l under k { open step { call note; } } }");
        due.taken(new StillHouse(), "pack p with house { kind k under still { open step { call note; } } }");
        due.taken(new StillHouse(), "pack p { kind k under still { open step "
            + "{ call check; call before; call step; call after; call close; } } }");
    }

    private static void refusals() {
        due.fault("pack p { kind k under still { open before { ^refuse 1; } } }", 7);
        due.fault("pack p { kind k under still { note { try { } rescue { ^refuse a; } } } }", 7);
        due.fault("pack p { kind k under still { open close { less 1 { say 1; ^refuse a; } } } }", 7);
        due.taken(new StillHouse(), "pack p { kind k under still { open check { less 1 { refuse a; } else { refuse 1; } } } }");
    }

    /** In the innermost block that there may be, by each way into it. */
    private static void deep() {
        String[] ways = {"less 5 {", "less 5 { } else {", "try {", "try { } rescue {"};
        for (String way : ways) {
            String ends = way.equals("try {") ? "} rescue { } " : "} ";
            due.fault("pack p { kind k under still { note { " + way.repeat(5) + " ^up; " + ends.repeat(5) + "} } }", 6);
            due.fault("pack p { kind k under still { note { " + way.repeat(5) + " ^refuse 1; " + ends.repeat(5) + "} } }", 7);
        }
    }

    private static void firstOfSeveral() {
        due.fault("pack p with ^q { kind still under nobody { } }", 2);
        due.fault("pack p { kind k under still { note { ^up; refuse 1; } guarded check { } } kind k under k { } }", 6);
        due.fault("pack p { kind k under still { note { ^refuse 1; up; } } }", 7);
        due.fault("pack p { kind k under still { ^step { refuse 1; } open step { } } }", 4);
        due.fault("pack p { kind k under still { open step { less 1 { ^refuse 1; } else { call note; } } } }", 7);
        due.fault("pack p { kind k under still { open step { less 1 { call ^note; } refuse 1; } } }", 6);
        due.fault("pack p { kind k under column { note { } ^step { } } kind still under still { } }", 5);
    }

    private static void full() {
        StillHouse x = new StillHouse();
        String names = "bcdefghijk";
        for (int pack = 0; pack < 3; pack++) {
            due.taken(x, tenKinds("pqr".charAt(pack), names));
        }
        due.is("count", x.count(0), 33);
        due.is("pack of 10 more", Due.pack(x, tenKinds('s', names)), -3);
        due.is("place of a full one", x.place(), -1);
        due.is("found", x.found(-3), 1);
        due.is("tape is empty", x.feed(0, 1), 1);
        due.is("pack", x.pack(), 1);
        due.is("count", x.count(0), 33);
        due.is("count", x.count(1), 3);
        due.fault(x, "pack p { kind zb under still { } kind zc under still { } kind zd under still { } kind ze under "
            + "still { } kind zf under still { } kind zg under still { } kind zh under still { } kind zi under ^zj { } }", 2);
        due.taken(x, "pack p { kind zb under still { } kind zc under still { } kind zd under still { } kind ze under "
            + "still { } kind zf under still { } kind zg under still { } kind zh under zg { } }");
        due.is("count", x.count(0), 40);
        due.is("kind", x.kind(39, 4), 2);
        due.is("41st", Due.pack(x, "pack p { kind zz under still { } }"), -3);

        x = new StillHouse();
        for (char c = 'b'; c < 'n'; c++) {
            due.taken(x, "pack p { kind " + c + " under still { } }");
        }
        due.is("13th pack", Due.pack(x, "pack p { kind z under still { } }"), -3);
        due.is("count", x.count(1), 12);
        due.is("count", x.count(0), 15);
        due.fault(x, "pack p { kind z under ^z { } }", 2);
    }

    private static String tenKinds(char first, String names) {
        StringBuilder text = new StringBuilder("pack p {");
        for (int i = 0; i < names.length(); i++) {
            text.append(" kind ").append(first).append(names.charAt(i)).append(" under still { }");
        }
        return text.append(" }").toString();
    }
}
