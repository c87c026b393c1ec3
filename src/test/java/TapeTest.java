/** Promises 1 to 4, and fault 1 of a pack's text with its limits. */
public final class TapeTest {
    private static final Due due = new Due("TapeTest");

    public static void main(String[] args) {
        newHouse();
        feeding();
        words();
        grammar();
        numbersAndNames();
        bytesLimit();
        kindsLimit();
        actionsLimit();
        depthLimit();
        places();
        due.end();
    }

    private static void newHouse() {
        StillHouse x = new StillHouse();
        int[] counts = {3, 0, 0, 0};
        for (int what = 0; what < 4; what++) {
            due.is("new: count", x.count(what), counts[what]);
            due.is("new: outcome", x.outcome(what), 0);
        }
        due.is("new: place", x.place(), -1);
        for (int what = 0; what < 7; what++) {
            due.is("new: all", x.all(what), 0);
        }
        for (int finding = -4; finding < 0; finding++) {
            due.is("new: found", x.found(finding), 0);
        }
        int[] rights = {0, 1, 1, 1, 2, 0};
        for (int hook = 0; hook < 6; hook++) {
            due.is("still's right", x.body(0, hook, 0), rights[hook]);
            due.is("still's last", x.body(0, hook, 1), 0);
            due.is("still's actions", x.body(0, hook, 2), 1);
        }
        due.is("pot's note", x.body(1, 4, 0), 2);
        due.is("pot's note", x.body(1, 4, 1), 0);
        due.is("pot's note", x.body(1, 4, 2), 2);
        due.is("column's step", x.body(2, 2, 0), 1);
        due.is("column's step", x.body(2, 2, 1), 1);
        due.is("column's step", x.body(2, 2, 2), 2);
    }

    private static void feeding() {
        StillHouse x = new StillHouse();
        due.is("feed 0", x.feed(1, 0), -1);
        due.is("feed 9", x.feed(1, 9), -1);
        due.is("feed -1", x.feed(1, -1), -1);
        due.is("feed min", x.feed(1, Integer.MIN_VALUE), -1);
        due.is("feed 1", x.feed(32, 1), 1);
        for (int i = 1; i <= 99; i++) {
            due.is("feed 8", x.feed(0x2020202020202020L, 8), 1 + 8 * i);
        }
        due.is("feed beyond 800", x.feed(0, 8), -3);
        due.is("feed 0 when full", x.feed(0, 0), -1);
        due.is("feed up to 800", x.feed(0, 7), 800);
        due.is("feed the 801st", x.feed(0, 1), -3);
        due.is("found full", x.found(-3), 2);
        due.is("pack of 800", x.pack(), 1);
        due.is("place of 800", x.place(), 700);
        due.is("feed anew", x.feed(-1L, 8), 8);
        due.is("pack of -1", x.pack(), 1);
        due.is("place of -1", x.place(), 0);
        // The lowest byte comes first, those above n do not come.
        due.is("feed", x.feed(0x6b636170L | 0x7f7f000000000L, 4), 4);
        due.is("pack", x.pack(), 1);
        due.is("place", x.place(), 4);
    }

    private static void words() {
        due.fault("^", 1);
        due.fault("   ^", 1);
        due.fault("\n \n^", 1);
        due.fault("^\t", 1);
        due.fault("^\r", 1);
        due.fault("^Pack p { }", 1);
        due.fault("pack ^P", 1);
        due.fault("pack p ^[", 1);
        due.fault("pack p ^\u007f", 1);
        due.fault("pack p ^\u00e4", 1);
        due.fault("pack p { kind k under still { } } ^~", 1);
        due.fault("pack p^_q { kind k under still { } }", 1);
        due.fault("pack ^abcdefghi { kind k under still { } }", 1);
        due.fault("pack p { kind k under still { step { say ^1234; } } }", 1);
        due.fault("pack p { kind k under still { step { say ^0001; } } }", 1);
        due.taken(new StillHouse(), "pack abcdefgh{kind k under still{open step{say1;add999;less5{}else{}try{}rescue{}}}}");
        due.taken(new StillHouse(), "\n pack\np\n{kind\nk under still\n{}}\n \n");
        due.taken(new StillHouse(), "pack p{kind k under still{open check{refuse 000;fail a;}}}");
        due.taken(new StillHouse(), "pack p{kind k under still{open check{less5{}less 05{}}}}");
        due.fault("pack p{kind k under still{open check{^sayaa;}}}", 1);
    }

    private static void grammar() {
        due.fault("pack^", 1);
        due.fault("pack p^", 1);
        due.fault("pack p  ^", 1);
        due.fault("^kind p", 1);
        due.fault("pack p with^", 1);
        due.fault("pack p with ^{ }", 1);
        due.fault("pack p { ^}", 1);
        due.fault("pack p { ^step { } }", 1);
        due.fault("pack p { kind ^{ } }", 1);
        due.fault("pack p { kind k ^{ } }", 1);
        due.fault("pack p { kind k under ^{ } }", 1);
        due.fault("pack p { kind k under still ^; }", 1);
        due.fault("pack p { kind k under still { } ^", 1);
        due.fault("pack p { kind k under still { } } ^}", 1);
        due.fault("pack p { kind k under still { } } ^pack q { kind l under still { } }", 1);
        due.fault("pack p { kind k under still { open ^guarded step { } } }", 1);
        due.fault("pack p { kind k under still { last ^open step { } } }", 1);
        due.fault("pack p { kind k under still { last ^last step { } } }", 1);
        due.fault("pack p { kind k under still { open last ^{ } } }", 1);
        due.fault("pack p { kind k under still { step ^; } }", 1);
        due.fault("pack p { kind k under still { step { ^; } } }", 1);
        due.fault("pack p { kind k under still { step { up ^a; } } }", 1);
        due.fault("pack p { kind k under still { step { call ^a; } } }", 1);
        due.fault("pack p { kind k under still { step { call step ^} } }", 1);
        due.fault("pack p { kind k under still { step { say ^; } } }", 1);
        due.fault("pack p { kind k under still { step { say ^k; } } }", 1);
        due.fault("pack p { kind k under still { step { say 1 ^2; } } }", 1);
        due.fault("pack p { kind k under still { step { less ^{ } } } }", 1);
        due.fault("pack p { kind k under still { step { less 1 ^say 1; } } }", 1);
        due.fault("pack p { kind k under still { step { less 1 { } ^; } } }", 1);
        due.fault("pack p { kind k under still { step { less 1 { } else { } ^else { } } } }", 1);
        due.fault("pack p { kind k under still { step { ^else { } } } }", 1);
        due.fault("pack p { kind k under still { step { ^rescue { } } } }", 1);
        due.fault("pack p { kind k under still { step { try { } ^} } }", 1);
        due.fault("pack p { kind k under still { step { try { } ^else { } } } }", 1);
        due.fault("pack p { kind k under still { step { try ^1 { } rescue { } } } }", 1);
        due.fault("pack p { kind k under still { step { ^step { } } } }", 1);
        due.fault("pack p { kind k under still { step { ^k; } } }", 1);
        due.fault("pack p { kind k under still { step { say 1; }^", 1);
        // The text's faults come ahead of all others, wherever they stand.
        due.fault("pack p with nobody { kind still under nobody { step { refuse 1; up; } } ^;", 1);
    }

    private static void numbersAndNames() {
        String[] reserved = {"pack", "with", "kind", "under", "open", "guarded", "last", "check", "before", "step",
            "after", "note", "close", "up", "call", "say", "add", "take", "warm", "fail", "refuse", "less", "else",
            "try", "rescue", "a"};
        for (String word : reserved) {
            due.fault("pack ^" + word + " { kind k under still { } }", 1);
            due.fault("pack p { kind ^" + word + " under still { } }", 1);
            due.fault("pack p { kind k under ^" + word + " { } }", 1);
            due.fault("pack p with ^" + word + " { kind k under still { } }", 1);
        }
        StillHouse x = new StillHouse();
        due.taken(x, "pack house { kind house under still { } kind rescues under house { } kind aa under still { } }");
        due.is("home", x.kind(3, 0), 1);
        due.taken(x, "pack b with house { kind b under aa { } }");
        due.is("home", x.kind(6, 0), 0);
    }

    private static void bytesLimit() {
        String text = "pack p { kind k under still { } }";
        due.taken(new StillHouse(), text + " ".repeat(700 - text.length()));
        due.fault(text + " ".repeat(700 - text.length()) + "^ ", 1);
        due.fault("?" + " ".repeat(699) + "^?", 1);
        due.fault("pack p { kind k under still { }" + " ".repeat(700 - 31) + "^", 1);
        due.fault("pack p { kind k under still { }" + " ".repeat(700 - 31) + "^}", 1);
    }

    private static void kindsLimit() {
        StringBuilder ten = new StringBuilder("pack p {");
        for (char c = 'b'; c < 'l'; c++) {
            ten.append(" kind ").append(c).append(" under still { }");
        }
        StillHouse x = new StillHouse();
        due.taken(x, ten + "}");
        due.is("count", x.count(0), 13);
        due.fault(ten + " ^kind z under still { } }", 1);
        due.fault(ten + " ^step", 1);
    }

    private static void actionsLimit() {
        String head = "pack p { kind k under still { open step {";
        StillHouse x = new StillHouse();
        due.taken(x, head + " say 1;".repeat(60) + "} open close {" + " up;".repeat(10) + "} } }");
        due.is("actions", x.body(3, 2, 2), 60);
        due.is("actions", x.body(3, 5, 2), 10);
        due.fault(head + " say 1;".repeat(60) + " ^say 1; } } }", 1);
        due.taken(x = new StillHouse(), head + "less 5 {" + "up;".repeat(29) + "} else { try {} rescue {"
            + "up;".repeat(29) + "} } } } }");
        due.is("actions", x.body(3, 2, 2), 60);
        due.fault(head + "less 5 {" + "up;".repeat(29) + "} else { try {} rescue {" + "up;".repeat(29)
            + "^up; } } } } }", 1);
        due.fault(head + "less 5 {" + "up;".repeat(29) + "} else { try {} rescue {" + "up;".repeat(29)
            + "} ^up; } } } }", 1);
        due.fault(head + "less 5 {" + "up;".repeat(59) + "^less 5 { } } } } }", 1);
    }

    private static void depthLimit() {
        String head = "pack p { kind k under still { open step {";
        due.taken(new StillHouse(), head + "less 5 {".repeat(5) + "up;" + "}".repeat(5) + "} } }");
        due.fault(head + "less 5 {".repeat(5) + "less 5 ^{" + "}".repeat(6) + "} } }", 1);
        due.fault(head + "try {".repeat(5) + "less 5 ^;", 1);
        due.fault(head + "try {".repeat(5) + "try ^{", 1);
        due.taken(new StillHouse(), head + "try {} rescue {".repeat(5) + "}".repeat(5) + "} } }");
        due.fault(head + "try {} rescue {".repeat(5) + "try ^{", 1);
        due.taken(new StillHouse(), head + "less a {} else {".repeat(5) + "}".repeat(5) + "} } }");
        due.fault(head + "less a {} else {".repeat(5) + "less a ^{} }", 1);
        // Blocks behind one another are not within one another.
        due.taken(new StillHouse(), head + "less 5 {} else {} try {} rescue {}".repeat(8) + "} } }");
    }

    private static void places() {
        StillHouse x = new StillHouse();
        due.fault(x, "^?", 1);
        due.is("place stays", x.place(), 0);
        due.is("feed", Due.feed(x, "pack"), 4);
        due.is("place stays till pack()", x.place(), 0);
        due.is("pack", x.pack(), 1);
        due.is("place", x.place(), 4);
        due.taken(x, "pack p { kind k under still { } }");
        due.is("no finding", x.found(-1), 0);
    }
}
