/** The boundary cases of the tape and of a pack's text (Terms 2: words, grammar, limits, fault 1; promises 2 to 4). */
public final class EdgesOfTextsTest {
    private static final Due due = new Due("EdgesOfTextsTest");
    private static final String KIND = "kind k under still { }";
    private static final String STEP = "pack p { kind k under still { open step {";
    private static final String[] HOOKS = {"check", "before", "step", "after", "note", "close"};
    private static final String[] NUMBERED = {"say", "add", "take", "warm", "fail", "refuse"};
    private static final String[] RESERVED = {"pack", "with", "kind", "under", "open", "guarded", "last", "check", "before",
        "step", "after", "note", "close", "up", "call", "say", "add", "take", "warm", "fail", "refuse", "less", "else",
        "try", "rescue", "a"};
    /** Has every word of the grammar and a name, a number and a brace wherever one can stand. */
    private static final String[] WORDS = ("pack p with house { kind k under still { open last check { up ; call step ; "
        + "say 1 ; add a ; take 22 ; warm 333 ; fail 4 ; refuse 5 ; less 6 { up ; } else { up ; } try { up ; } rescue { up ; } "
        + "less a { } } guarded step { } note { } } kind l under k { } }").split(" ");

    public static void main(String[] args) {
        feedOfOneToEight();
        feedOfTheLowestBytes();
        feedUpTo800();
        packEmptiesTheTape();
        faultChangesNothing();
        placeWithoutFault();
        bytes();
        rowsOfLetters();
        numbers();
        blanksOrNothing();
        longestWords();
        oneKindAtLeast();
        anyNumberOfBodies();
        rightsAndLast();
        anyNumberOfActions();
        actions();
        blocks();
        numberOrA();
        names();
        firstWrongWord();
        endsTooSoon();
        textAheadOfAll();
        mostBytes();
        mostKinds();
        mostActions();
        mostBraces();
        innermostActions();
        due.end();
    }

    private static void feedOfOneToEight() {
        due.sentence("BEYOND: n isn't 1 .. 8.");
        StillHouse x = new StillHouse();
        int[] wrong = {0, -1, 9, 16, Integer.MIN_VALUE, Integer.MAX_VALUE};
        for (int n : wrong) {
            due.is("feed of " + n, x.feed(-1L, n), -1);
        }
        due.is("found(-1)", x.found(-1), wrong.length);
        for (int n = 1; n <= 8; n++) {
            due.is("feed of " + n, x.feed(0, n), n * (n + 1) / 2);
        }
        due.is("found(-1)", x.found(-1), wrong.length);
    }

    private static void feedOfTheLowestBytes() {
        due.sentence("The n lowest bytes of w, the lowest first, come to the tape: how many it has.");
        for (int n = 1; n <= 8; n++) {
            StillHouse x = new StillHouse();
            // The blanks come, and none of the bytes above them: the fault stands at the text's end.
            long blanks = 0x2020202020202020L >>> (64 - 8 * n);
            long above = n == 8 ? 0 : 0x3f3f3f3f3f3f3f3fL << (8 * n);
            due.is("feed", x.feed(blanks | above, n), n);
            due.is("pack", x.pack(), 1);
            due.is("place", x.place(), n);
            // The byte at the top is the last one.
            due.is("feed", x.feed((blanks & ~(255L << (8 * n - 8))) | 0xffL << (8 * n - 8), n), n);
            due.is("pack", x.pack(), 1);
            due.is("place", x.place(), n - 1);
        }
        StillHouse x = new StillHouse();
        String text = "pack p { kind k under still { } }";
        for (int i = 0; i < text.length(); i++) {
            due.is("feed of one byte", x.feed(0xffffffffffffff00L | text.charAt(i), 1), i + 1);
        }
        due.is("pack", x.pack(), 0);
    }

    private static void feedUpTo800() {
        due.sentence("FULL: there would be more than 800.");
        for (int n = 1; n <= 8; n++) {
            StillHouse x = new StillHouse();
            for (int i = 1; i < 100; i++) {
                x.feed(0x2020202020202020L, 8);
            }
            due.is("feed up to 800 less n", n == 8 ? 792 : x.feed(0x2020202020202020L, 8 - n), 800 - n);
            if (n < 8) {
                due.is("feed of one more than there is room for", x.feed(0, n + 1), -3);
            }
            due.is("feed up to 800", x.feed(0x2020202020202020L, n), 800);
            due.is("feed of the 801st", x.feed(32, 1), -3);
            due.is("feed of none, beyond ahead of full", x.feed(32, 0), -1);
            due.is("found(-3)", x.found(-3), n < 8 ? 2 : 1);
            due.is("pack of 800", x.pack(), 1);
            due.is("the tape is empty", x.feed(32, n), n);
        }
    }

    private static void packEmptiesTheTape() {
        due.sentence("The tape (empty then) is a pack: 0, and its kinds are there, numbered as they stand");
        StillHouse x = new StillHouse();
        due.taken(x, "pack p { kind m under still { } kind l under pot { } kind k under m { } }");
        due.is("feed behind a pack", x.feed(32, 1), 1);
        due.is("pack of a blank", x.pack(), 1);
        due.is("feed behind a fault", x.feed(32, 2), 2);
        due.is("count(0)", x.count(0), 6);
        due.is("m is under still", x.kind(3, 1), 0);
        due.is("l is under pot", x.kind(4, 1), 1);
        due.is("k is under m", x.kind(5, 1), 3);
        // What an earlier and longer text had there is no part of the next one's last word.
        String[] texts = {"pack^", "pack p^", "pack p { kind k^", STEP + " say 1^", STEP + " say 123^", "pack p { " + KIND + " }"};
        String[] earlier = {"z".repeat(80), "7".repeat(80), " ".repeat(80), "}".repeat(80), ";".repeat(80)};
        for (String text : texts) {
            for (String longer : earlier) {
                StillHouse y = new StillHouse();
                due.fault(y, (longer.isBlank() ? "" : "^") + longer + (longer.isBlank() ? "^" : ""), 1);
                if (text.contains("^")) {
                    due.fault(y, text, 1);
                } else {
                    due.taken(y, text);
                }
            }
        }
    }

    private static void faultChangesNothing() {
        due.sentence("or the number of its fault, 1 to 7 (nothing changes but place())");
        String[] faults = {"pack q { kind k under still { } } ^;", "pack q { kind k under still { } kind l under ^q { } }",
            "pack q { kind k under still { open step { } open ^step { } } }", "pack q { kind k under still { ^step { } } }",
            "pack q with p { kind k under b { ^note { } } }", "pack q { kind k under b { note { ^up; } } }",
            "pack q { kind k under b { note { ^refuse 1; } } }"};
        for (int i = 0; i < faults.length; i++) {
            StillHouse x = new StillHouse();
            due.taken(x, "pack p { kind b under still { last note { } } }");
            String ahead = Tale.of(x);
            due.fault(x, faults[i], i + 1);
            due.is("nothing changes behind " + faults[i], Tale.of(x).equals(ahead) ? 1 : 0, 1);
            due.taken(x, "pack q { kind k under b { } }");
            due.is("the package's number was not used up", x.kind(4, 0), 2);
            for (int finding = -4; finding < 0; finding++) {
                due.is("found(" + finding + ")", x.found(finding), 0);
            }
        }
    }

    private static void placeWithoutFault() {
        due.sentence("The place of the fault of the latest pack(); -1 if it had none, was FULL, or there was none (no finding).");
        StillHouse x = new StillHouse();
        due.is("place() without a pack", x.place(), -1);
        due.fault(x, "pack p { ^}", 1);
        due.is("place() once more", x.place(), 9);
        due.taken(x, "pack p { kind k under still { } }");
        due.fault(x, "^p", 1);
        due.is("feed", Due.feed(x, "pack p { kind zz under still { } }"), 34);
        due.is("place() before pack()", x.place(), 0);
        due.is("pack", x.pack(), 0);
        due.is("place() behind it", x.place(), -1);
        for (char c = 'b'; c <= 'i'; c++) {
            due.is("pack", Due.pack(x, "pack p{kind m" + c + " under still{}}"), 0);
        }
        due.is("pack", Due.pack(x, "pack p{kind n under still{}}"), 0);
        due.is("pack", Due.pack(x, "pack p{kind o under still{}}"), 0);
        due.fault(x, "^p", 1);
        due.is("a full one", Due.pack(x, "pack p{kind q under still{}}"), -3);
        due.is("place() of a full one", x.place(), -1);
        due.is("found(-1)", x.found(-1), 0);
        due.is("found(-3)", x.found(-3), 1);
    }

    private static void bytes() {
        due.sentence("PACKS, as texts on the tape: bytes 10, 32 .. 126.");
        String text = "pack p { kind k under still { } }";
        for (char c = 0; c < 256; c++) {
            boolean blank = c == 10 || c == 32;
            boolean letter = c >= 'a' && c <= 'z';
            packOf("byte " + (int) c + " at first", c + " " + text, blank ? 0 : 1, blank ? -1 : 0);
            packOf("byte " + (int) c + " at last", text + c, blank ? 0 : 1, blank ? -1 : text.length());
            int within = blank || c == '{' ? 7 : 6;
            packOf("byte " + (int) c + " in a name", text.replace("p {", "p" + c + "q {"), letter ? 0 : 1,
                letter ? -1 : within);
        }
    }

    private static void packOf(String call, String text, int answer, int place) {
        StillHouse x = new StillHouse();
        due.is(call, Due.pack(x, text), answer);
        due.is(call + ": place()", x.place(), place);
    }

    private static void rowsOfLetters() {
        due.sentence("rows of letters a .. z (1 to 8; longer is no word)");
        for (int size = 1; size <= 12; size++) {
            String name = "z".repeat(size - 1) + "b";
            String mark = size <= 8 ? "" : "^";
            textOf(size <= 8, "pack " + mark + name + " { " + KIND + " }");
            textOf(size <= 8, "pack p { kind " + mark + name + " under still { } }");
            textOf(size <= 8, "pack p { kind " + name.substring(0, Math.min(size, 8)) + " under still { } kind k under " + mark
                + name + " { } }");
            StillHouse x = new StillHouse();
            due.taken(x, "pack " + name.substring(0, Math.min(size, 8)) + " { " + KIND + " }");
            String with = "pack p with " + mark + name + " { kind l under still { } }";
            if (size <= 8) {
                due.taken(x, with);
            } else {
                due.fault(x, with, 1);
            }
        }
        textOf(false, "^packpackp p { " + KIND + " }");
        textOf(false, STEP + " ^refuseref 1; } } }");
    }

    private static void textOf(boolean right, String marked) {
        if (right) {
            due.taken(new StillHouse(), marked);
        } else {
            due.fault(marked, 1);
        }
    }

    private static void numbers() {
        due.sentence("numbers (1 to 3 figures; longer is no word)");
        String[] written = {"0", "9", "00", "09", "10", "99", "000", "007", "100", "999"};
        for (String number : written) {
            StillHouse x = new StillHouse();
            due.taken(x, STEP + " say " + number + "; } } }");
            due.is("make", x.make(3, 0), 0);
            due.is("act", x.act(0, 0), 0);
            due.is("said " + number, x.said(2), Integer.parseInt(number));
        }
        String[] longer = {"0000", "0001", "1000", "9999", "12345678901234567890"};
        for (String number : longer) {
            due.fault(STEP + " say ^" + number + "; } } }", 1);
            due.fault(STEP + " less ^" + number + " { } } } }", 1);
        }
    }

    private static void blanksOrNothing() {
        due.sentence("WORDS with blanks (10, 32) between, or nothing");
        due.taken(new StillHouse(), String.join(" ", WORDS));
        due.taken(new StillHouse(), "\n\n" + String.join("\n", WORDS) + "\n\n");
        StringBuilder wide = new StringBuilder("  ");
        StringBuilder dense = new StringBuilder();
        for (int i = 0; i < WORDS.length; i++) {
            wide.append(WORDS[i]).append(" \n ");
            boolean joins = i > 0 && isLetter(WORDS[i]) && isLetter(WORDS[i - 1]);
            dense.append(joins ? " " : "").append(WORDS[i]);
        }
        due.taken(new StillHouse(), wide.toString());
        due.taken(new StillHouse(), dense.toString());
    }

    private static boolean isLetter(String word) {
        return word.charAt(0) >= 'a' && word.charAt(0) <= 'z';
    }

    private static void longestWords() {
        due.sentence("(the longest that there are)");
        due.fault("^packp { " + KIND + " }", 1);
        due.fault("pack p ^withp { " + KIND + " }", 1);
        due.fault("pack p { ^kindk under still { } }", 1);
        due.fault(STEP + " ^upup; } } }", 1);
        due.fault(STEP + " ^callstep; } } }", 1);
        due.fault(STEP + " ^saya; } } }", 1);
        due.fault(STEP + " say ^aa; } } }", 1);
        due.fault(STEP + " say 1^a; } } }", 1);
        due.fault(STEP + " say a^1; } } }", 1);
        due.fault("pack p ^1 { " + KIND + " }", 1);
        due.fault("pack p^1 { " + KIND + " }", 1);
        due.taken(new StillHouse(), STEP + " say1;say 1;less1{}less 1{} } } }");
    }

    private static void oneKindAtLeast() {
        due.sentence("PACK: pack NAME [ with NAME ] { KIND { KIND } }.");
        due.fault("pack p { ^}", 1);
        due.fault("pack p with house { ^}", 1);
        due.fault("pack p with^", 1);
        due.fault("pack ^with house { " + KIND + " }", 1);
        due.fault("pack p with house ^with house { " + KIND + " }", 1);
        due.taken(new StillHouse(), "pack p { " + KIND + " }");
        due.taken(new StillHouse(), "pack p with house { " + KIND + " }");
        due.taken(new StillHouse(), "pack p { " + KIND + " kind l under k { } }");
        due.fault("pack p { " + KIND + " ^{ kind l under k { } } }", 1);
        due.fault("pack p { " + KIND + " } ^" + KIND, 1);
        due.fault("pack p { " + KIND + " } ^}", 1);
    }

    private static void anyNumberOfBodies() {
        due.sentence("KIND: kind NAME under NAME { any number of BODIES }.");
        StringBuilder bodies = new StringBuilder();
        for (int many = 0; many <= 6; many++) {
            StillHouse x = new StillHouse();
            due.taken(x, "pack p { kind k under still { " + bodies + "} }");
            due.is("hooks", x.kind(3, 3), (1 << many) - 1);
            if (many < 6) {
                bodies.append("open ").append(HOOKS[many]).append(" { } ");
            }
        }
        due.fault("pack p { kind k under still { " + bodies + "open ^close { } } }", 3);
        due.fault("pack p { kind k under still { } ^{ } }", 1);
        due.fault("pack p { kind k ^still { } }", 1);
    }

    private static void rightsAndLast() {
        due.sentence("BODY: [ open | guarded ] [ last ] HOOK { any number of ACTIONS }.");
        String[] rights = {"open ", "guarded ", ""};
        for (int right = 0; right < 3; right++) {
            for (int last = 0; last < 2; last++) {
                StillHouse x = new StillHouse();
                due.taken(x, "pack p { kind k under still { " + rights[right] + (last == 1 ? "last " : "") + "note { } } }");
                due.is("right", x.body(3, 4, 0), right);
                due.is("last", x.body(3, 4, 1), last);
            }
        }
        due.fault("pack p { kind k under still { open ^open note { } } }", 1);
        due.fault("pack p { kind k under still { open ^guarded note { } } }", 1);
        due.fault("pack p { kind k under still { guarded ^open note { } } }", 1);
        due.fault("pack p { kind k under still { last ^last note { } } }", 1);
        due.fault("pack p { kind k under still { last ^open note { } } }", 1);
        due.fault("pack p { kind k under still { open ^{ } } }", 1);
        due.fault("pack p { kind k under still { last ^{ } } }", 1);
        due.fault("pack p { kind k under still { ^{ } } }", 1);
        due.fault("pack p { kind k under still { open ^up; } }", 1);
    }

    private static void anyNumberOfActions() {
        due.sentence("HOOK { any number of ACTIONS }");
        for (int many = 0; many <= 61; many++) {
            StillHouse x = new StillHouse();
            String text = STEP + "up;".repeat(Math.min(many, 60)) + (many == 61 ? "^up;" : "") + "} } }";
            if (many <= 60) {
                due.taken(x, text);
                due.is("actions", x.body(3, 2, 2), many);
            } else {
                due.fault(x, text, 1);
            }
        }
    }

    private static void actions() {
        due.sentence("ACTION: up ; | call HOOK ; | say N ; | add N ; | take N ; | warm N ; | fail N ; | refuse N ;");
        due.taken(new StillHouse(), STEP + " up; } } }");
        due.fault(STEP + " up ^} } }", 1);
        due.fault(STEP + " up ^1; } } }", 1);
        due.fault(STEP + " ^; } } }", 1);
        due.fault(STEP + " up; ^; } } }", 1);
        for (String hook : HOOKS) {
            due.taken(new StillHouse(), STEP + " call " + hook + "; } note { } } }");
            due.fault(STEP + " call " + hook + " ^} } }", 1);
            due.fault(STEP + " ^" + hook + "; } } }", 1);
        }
        due.fault(STEP + " call ^; } } }", 1);
        due.fault(STEP + " call ^k; } } }", 1);
        due.fault(STEP + " call ^2; } } }", 1);
        for (String action : NUMBERED) {
            String head = "pack p { kind k under still { open check { " + action;
            due.taken(new StillHouse(), head + " 5; } } }");
            due.fault(head + " ^; } } }", 1);
            due.fault(head + " 5 ^} } }", 1);
            due.fault(head + " 5 ^5; } } }", 1);
        }
    }

    private static void blocks() {
        due.sentence("less N { ACTIONS } [ else { ACTIONS } ] | try { ACTIONS } rescue { ACTIONS }.");
        String[] right = {"less 5 { up; }", "less 5 { up; } else { up; up; }", "try { up; } rescue { up; }",
            "less a { less 5 { up; } else { up; } } else { try { up; } rescue { up; } }"};
        for (String block : right) {
            due.taken(new StillHouse(), STEP + block + " } } }");
            due.taken(new StillHouse(), STEP + block + block + " } } }");
        }
        String[] wrong = {"less ^{ up; }", "less 5 ^up; }", "less 5 { up; ^else { up; }", "less 5 { up; } else ^up; }",
            "less 5 { up; } else { up; } ^else { up; }", "^else { up; }", "less 5 { up; } ^rescue { up; }", "less 5 { up; } ^; ",
            "try ^up; rescue { up; }", "try ^5 { up; } rescue { up; }", "try { up; } ^}", "try { up; } ^else { up; }",
            "try { up; } ^up;", "try { up; } rescue ^up;", "try { up; } rescue { up; } ^rescue { up; }", "^rescue { up; }",
            "try { up; } rescue { up; } ^else { up; }", "^{ up; }"};
        for (String block : wrong) {
            due.fault(STEP + block + " } } }", 1);
        }
    }

    private static void numberOrA() {
        due.sentence("N: a number, or a.");
        for (String action : NUMBERED) {
            String head = "pack p { kind k under still { open check { " + action;
            due.taken(new StillHouse(), head + " 0; } } }");
            due.taken(new StillHouse(), head + " 999; } } }");
            due.taken(new StillHouse(), head + " a; } } }");
            due.fault(head + " ^b; } } }", 1);
            due.fault(head + " ^aa; } } }", 1);
            due.fault(head + " ^1000; } } }", 1);
            due.fault(head + " ^-1; } } }", 1);
        }
        due.taken(new StillHouse(), STEP + " less a { } } } }");
        due.fault(STEP + " less ^b { } } } }", 1);
    }

    private static void names() {
        due.sentence("NAMES: rows of letters but the words that stand here");
        for (String word : RESERVED) {
            due.fault("pack ^" + word + " { " + KIND + " }", 1);
            due.fault("pack p with ^" + word + " { " + KIND + " }", 1);
            due.fault("pack p { kind ^" + word + " under still { } }", 1);
            due.fault("pack p { kind k under ^" + word + " { } }", 1);
            // One letter more or less than such a word is a name, if it is no other of them.
            String longer = word + "z";
            due.taken(new StillHouse(), "pack " + longer + " { kind " + longer + " under still { } }");
            String shorter = word.substring(0, word.length() - 1);
            if (!shorter.isEmpty()) {
                due.taken(new StillHouse(), "pack " + shorter + " { kind " + shorter + " under still { } }");
            }
        }
        due.fault("pack ^{ " + KIND + " }", 1);
        due.fault("pack ^7 { " + KIND + " }", 1);
        due.fault("pack p { kind ^7 under still { } }", 1);
        due.fault("pack p { kind k under ^7 { } }", 1);
        due.taken(new StillHouse(), "pack house { kind house under still { } kind p under house { } }");
        due.taken(new StillHouse(), "pack still { kind b under still { } kind z under b { } }");
    }

    /** In place of each word one that can stand nowhere. */
    private static void firstWrongWord() {
        due.sentence("1 TEXT: the first byte that can begin no word, or word (its first byte; the length, if it ends too soon) "
            + "that can't stand there");
        String[] nowhere = {"?", "A", "abcdefghi", "1234", "\u0000", "\u00ff"};
        for (int at = 0; at < WORDS.length; at++) {
            for (String word : nowhere) {
                due.fault(withWord(at, word), 1);
            }
        }
        // Of several the first one counts, of whatever sort.
        due.fault("pack p ^; ?", 1);
        due.fault("pack p ^? ;", 1);
        due.fault("pack p ^abcdefghi ?", 1);
        due.fault("pack ^with ? abcdefghi", 1);
    }

    private static String withWord(int at, String word) {
        StringBuilder text = new StringBuilder();
        for (int i = 0; i < WORDS.length; i++) {
            text.append(i == at ? "^" + word : WORDS[i]).append(' ');
        }
        return text.toString();
    }

    private static void endsTooSoon() {
        due.sentence("(its first byte; the length, if it ends too soon)");
        StringBuilder text = new StringBuilder();
        for (int i = 0; i < WORDS.length; i++) {
            due.fault(text + "^", 1);
            due.fault(text + "\n  ^", 1);
            text.append(i == 0 ? "" : " ").append(WORDS[i]);
        }
        due.taken(new StillHouse(), text.toString());
        due.taken(new StillHouse(), text + "\n  ");
    }

    private static void textAheadOfAll() {
        due.sentence("Then, the first place of any");
        due.fault("pack p with q { kind still under q { check { refuse 1; } check { } } } ^}", 1);
        due.fault("pack p with ^q { kind still under q { check { refuse 1; } check { } } }", 2);
    }

    private static void mostBytes() {
        due.sentence("LIMITS: 700 bytes");
        String text = "pack p { " + KIND + " }";
        String wide = text + " ".repeat(699 - text.length());
        due.taken(new StillHouse(), wide);
        due.taken(new StillHouse(), wide + " ");
        due.fault(wide + " ^ ", 1);
        due.fault(wide + " ^" + " ".repeat(100), 1);
        due.taken(new StillHouse(), text.substring(0, text.length() - 1) + " ".repeat(700 - text.length()) + "}");
        due.sentence("(the 701st byte ahead of all; kind; the ACTION's first word; the {)");
        due.fault("^?" + " ".repeat(699), 1);
        due.fault("?" + " ".repeat(699) + "^ ", 1);
        due.fault("?" + " ".repeat(699) + "^?" + " ".repeat(99), 1);
        due.fault("pack p { kind still under still { } }" + " ".repeat(663) + "^ ", 1);
        due.fault("pack p { kind ^still under still { } }" + " ".repeat(663), 2);
        due.fault(" ".repeat(700) + "^", 1);
        due.fault(" ".repeat(700) + "^" + text, 1);
    }

    private static void mostKinds() {
        due.sentence("10 kinds of a pack");
        StringBuilder kinds = new StringBuilder();
        for (int many = 1; many <= 10; many++) {
            kinds.append("kind m").append((char) ('a' + many)).append(" under still { } ");
            StillHouse x = new StillHouse();
            due.taken(x, "pack p { " + kinds + "}");
            due.is("count(0)", x.count(0), 3 + many);
        }
        due.fault("pack p { " + kinds + "^" + KIND + " }", 1);
        due.fault("pack p { " + kinds + "^kind ?", 1);
        due.fault("pack p { " + kinds + "^", 1);
        due.fault("pack p { " + kinds.toString().replaceFirst("still", "nobody") + "^" + KIND + " }", 1);
    }

    private static void mostActions() {
        due.sentence("60 ACTIONS of a BODY");
        String sixty = "up;".repeat(60);
        due.taken(new StillHouse(), STEP + sixty + "} open close {" + sixty + "} } kind l under k { open step {" + sixty + "} } }");
        due.fault(STEP + sixty + "} open close {" + sixty + "^up;} } }", 1);
        String[] openings = {"less 5 {", "less 5 { } else {", "try {", "try { } rescue {"};
        String[] ends = {"}", "}", "} rescue { }", "}"};
        for (int i = 0; i < openings.length; i++) {
            String within = STEP + openings[i] + "up;".repeat(59);
            StillHouse x = new StillHouse();
            due.taken(x, within + ends[i] + "} } }");
            due.is("actions", x.body(3, 2, 2), 60);
            due.fault(within + "^up;" + ends[i] + "} } }", 1);
            due.fault(within + ends[i] + "^up;} } }", 1);
            due.fault(STEP + sixty + "^" + openings[i] + ends[i] + "} } }", 1);
        }
        due.fault(STEP + "try {" + "up;".repeat(59) + "} rescue { ^up; } } } }", 1);
        due.fault(STEP + "less 5 {" + "up;".repeat(59) + "} else { ^up; } } } }", 1);
        due.fault(STEP + sixty + "^?", 1);
    }

    private static void mostBraces() {
        due.sentence("6 { within one another in a BODY (its own is one)");
        String[] openings = {"less 5 {", "less 5 { } else {", "try {", "try { } rescue {"};
        String[] heads = {"less 5 ", "less 5 ", "try ", "try "};
        String[] ends = {"}", "}", "} rescue { }", "}"};
        for (int i = 0; i < openings.length; i++) {
            String five = STEP + openings[i].repeat(5);
            due.taken(new StillHouse(), five + "up;" + ends[i].repeat(5) + "} } }");
            due.fault(five + heads[i] + "^{ } ", 1);
            for (int j = 0; j < openings.length; j++) {
                due.taken(new StillHouse(), STEP + openings[i].repeat(4) + openings[j] + "up;" + ends[j] + ends[i].repeat(4)
                    + "} } }");
                due.fault(STEP + openings[i].repeat(4) + openings[j] + heads[j] + "^{ }", 1);
            }
            // Behind one another they are not within one another.
            due.taken(new StillHouse(), STEP + (openings[i] + ends[i]).repeat(9) + "} open close { less 5 { } } } }");
        }
        due.fault(STEP + "less 5 {".repeat(5) + " less 5 ^; ", 1);
        due.fault(STEP + "less 5 {".repeat(5) + " less 5 ^else { } ", 1);
        due.fault(STEP + "try {".repeat(5) + " try ^up; ", 1);
        due.fault(STEP + "try {".repeat(5) + " try ^rescue { } ", 1);
    }

    /** What stands within six of them is looked at as all else is, and run. */
    private static void innermostActions() {
        due.sentence("6 { within one another in a BODY (its own is one)");
        String[] openings = {"less 5 {", "less 4 { } else {", "try {", "try { fail 1; } rescue {"};
        String[] ends = {"} ", "} ", "} rescue { } ", "} "};
        for (int i = 0; i < openings.length; i++) {
            String five = openings[i].repeat(5);
            String closings = ends[i].repeat(5) + "} } }";
            due.fault(STEP + five + " ^refuse 1; " + closings, 7);
            due.fault(STEP + five + " call ^note; " + closings, 6);
            StillHouse x = new StillHouse();
            due.taken(x, STEP + five + " say 30; " + closings);
            due.is("make", x.make(3, 0), 0);
            due.is("act", x.act(0, 4), 0);
            due.told(five, x, 0, 1, 30, 3, 4, 5);
        }
    }
}
