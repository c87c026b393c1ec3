import java.io.ByteArrayOutputStream;
import java.nio.charset.StandardCharsets;
import java.util.ArrayList;
import java.util.Arrays;
import java.util.Comparator;
import java.util.HashMap;
import java.util.List;
import java.util.Map;
import java.util.regex.Matcher;
import java.util.regex.Pattern;

/**
 * A second house, written from the document's first line to its last one, as near to its words as can be and as far
 * from the class as can be: definitions call themselves instead of being worked out ahead, failures are thrown,
 * all faults are gathered and then sorted, and what is taken back is a copy of what was there. AgreementTest asks
 * both houses alike.
 */
final class PlainHouse {
    private static final int BEYOND = -1;
    private static final int NONE = -2;
    private static final int FULL = -3;
    private static final int GONE = -4;
    private static final List<String> HOOKS = List.of("check", "before", "step", "after", "note", "close");
    private static final List<String> RIGHTS = List.of("open", "guarded", "");
    private static final List<String> NO_NAMES = List.of(("pack with kind under open guarded last check before step "
        + "after note close up call say add take warm fail refuse less else try rescue a").split(" "));
    private static final Pattern WORD = Pattern.compile("[a-z]+|[0-9]+|[{};]");

    private record Word(String text, int place) { }

    private record Action(String what, int place, String n, List<Action> first, List<Action> other) { }

    private record Body(int right, boolean last, String hook, int place, List<Action> actions) {
        int size() {
            return sizeOf(actions);
        }
    }

    private static final class Kind {
        String name;
        int namePlace;
        String under;
        int underPlace;
        int number;
        Kind above;
        int home;
        int pack = -7;
        final List<Body> bodies = new ArrayList<>();

        Body of(String hook) {
            return bodies.stream().filter(body -> body.hook.equals(hook)).findFirst().orElse(null);
        }

        boolean isUnder(Kind other) {
            return above != null && (above == other || above.isUnder(other));
        }
    }

    private record Pack(String name, int home) { }

    private record Found(int number, int place) { }

    /** All that undo() brings back. */
    private record Stores(List<int[]> waterAndHeat, long[] sums) { }

    private record Entry(int what, int app, int n, Stores ahead) { }

    private static final class Fault extends Exception {
        final int place;

        Fault(int place) {
            super(null, null, false, false);
            this.place = place;
        }
    }

    private static class Stop extends Exception {
        final int number;

        Stop(int number) {
            super(null, null, false, false);
            this.number = number;
        }
    }

    private static final class Fails extends Stop {
        Fails(int number) {
            super(number);
        }
    }

    private static final class Refused extends Stop {
        Refused(int number) {
            super(number);
        }
    }

    private static final class Spent extends Stop {
        Spent() {
            super(0);
        }
    }

    private final ByteArrayOutputStream tape = new ByteArrayOutputStream();
    private int place = -1;
    private final List<Kind> kinds = new ArrayList<>();
    private final List<Pack> packs = new ArrayList<>();
    private final List<Integer> retired = new ArrayList<>();
    private final List<Kind> kindOf = new ArrayList<>();
    private final List<Integer> sizeOf = new ArrayList<>();
    /** Water and heat of each apparatus. */
    private List<int[]> stores = new ArrayList<>();
    /** As all() numbers them; those of what apparatus have stay 0 here. */
    private long[] sums = new long[7];
    private final List<Entry> entries = new ArrayList<>();
    private final Map<Integer, Integer> found = new HashMap<>();

    private int app;
    private int a;
    private boolean inCheck;
    private int number;
    private int ticks;
    private final List<int[]> ran = new ArrayList<>();
    private final List<Integer> told = new ArrayList<>();

    PlainHouse() {
        String house = "pack house with house { kind still under still { open check { say 0; } guarded before { say 1; } "
            + "guarded step { say 2; } guarded after { say 3; } note { say 4; } open close { say 5; } } "
            + "kind pot under still { note { up; say 14; } } kind column under pot { guarded last step { up; add 1; } } }";
        try {
            for (Kind kind : new Text(house).read()) {
                settle(kind, kinds.size(), named(kind.under, kinds), 0, -7);
                kinds.add(kind);
            }
        } catch (Fault e) {
            throw new IllegalStateException("the house's own kinds", e);
        }
    }

    // ---- Terms 1

    private static boolean maySee(Kind lower, Kind upper, String hook) {
        return upper.of(hook).right < 2 || lower.home == upper.home;
    }

    private boolean overrides(Kind lower, Kind upper, String hook) {
        if (lower.of(hook) == null || upper.of(hook) == null || !lower.isUnder(upper)) {
            return false;
        }
        boolean overrides = maySee(lower, upper, hook);
        for (Kind between = lower.above; between != upper && !overrides; between = between.above) {
            overrides = overrides(lower, between, hook) && overrides(between, upper, hook);
        }
        return overrides;
    }

    private Kind chosen(Kind of, String hook, Kind kind) {
        if (of.of(hook) == null || kind != of && !kind.isUnder(of)) {
            return null;
        }
        return kind == of || overrides(kind, of, hook) ? kind : chosen(of, hook, kind.above);
    }

    private static Kind resolved(Kind of, String hook, Kind from) {
        if (from == null) {
            return null;
        }
        boolean taken = from.of(hook) != null && (from == of || maySee(of, from, hook));
        return taken ? from : resolved(of, hook, from.above);
    }

    // ---- Terms 2

    private static int sizeOf(List<Action> actions) {
        int size = 0;
        for (Action action : actions) {
            size += 1 + sizeOf(action.first) + sizeOf(action.other);
        }
        return size;
    }

    /** A pack's text, read word by word; a fault of the text is thrown. */
    private static final class Text {
        final List<Word> words = new ArrayList<>();
        int at = 0;
        int actions = 0;
        String name;
        String with = null;
        int withPlace;

        Text(String text) throws Fault {
            if (text.length() > 700) {
                throw new Fault(700);
            }
            Matcher matcher = WORD.matcher(text);
            int from = 0;
            while (from < text.length()) {
                char c = text.charAt(from);
                if (c == ' ' || c == '\n') {
                    from++;
                } else if (matcher.find(from) && matcher.start() == from) {
                    words.add(new Word(matcher.group(), from));
                    from = matcher.end();
                } else {
                    words.add(new Word("no word", from));
                    from = text.length();
                }
            }
            words.add(new Word("", text.length()));
        }

        List<Kind> read() throws Fault {
            take("pack");
            name = takeName();
            if (sees("with")) {
                take("with");
                withPlace = words.get(at).place;
                with = takeName();
            }
            take("{");
            List<Kind> read = new ArrayList<>();
            do {
                if (sees("kind") && read.size() == 10) {
                    throw new Fault(words.get(at).place);
                }
                read.add(kind());
            } while (!sees("}") && sees("kind"));
            take("}");
            take("");
            return read;
        }

        Kind kind() throws Fault {
            Kind kind = new Kind();
            take("kind");
            kind.namePlace = words.get(at).place;
            kind.name = takeName();
            take("under");
            kind.underPlace = words.get(at).place;
            kind.under = takeName();
            take("{");
            while (!sees("}")) {
                kind.bodies.add(body());
            }
            take("}");
            return kind;
        }

        Body body() throws Fault {
            int right = RIGHTS.indexOf(words.get(at).text);
            if (right == 0 || right == 1) {
                at++;
            } else {
                right = 2;
            }
            boolean last = sees("last");
            if (last) {
                at++;
            }
            int place = words.get(at).place;
            String hook = takeOneOf(HOOKS);
            actions = 0;
            return new Body(right, last, hook, place, actions(1));
        }

        List<Action> actions(int within) throws Fault {
            if (sees("{") && within > 6) {
                throw new Fault(words.get(at).place);
            }
            take("{");
            List<Action> read = new ArrayList<>();
            while (!sees("}")) {
                read.add(action(within));
            }
            take("}");
            return read;
        }

        Action action(int within) throws Fault {
            Word first = words.get(at);
            String what = takeOneOf(List.of("up", "call", "say", "add", "take", "warm", "fail", "refuse", "less", "try"));
            actions++;
            if (actions > 60) {
                throw new Fault(first.place);
            }
            if (what.equals("try")) {
                List<Action> tried = actions(within + 1);
                take("rescue");
                return new Action(what, first.place, "", tried, actions(within + 1));
            }
            int place = what.equals("call") ? words.get(at).place : first.place;
            String n = what.equals("up") ? "" : what.equals("call") ? takeOneOf(HOOKS) : takeNumber();
            if (what.equals("less")) {
                List<Action> below = actions(within + 1);
                List<Action> otherwise = List.of();
                if (sees("else")) {
                    take("else");
                    otherwise = actions(within + 1);
                }
                return new Action(what, place, n, below, otherwise);
            }
            take(";");
            return new Action(what, place, n, List.of(), List.of());
        }

        boolean sees(String word) {
            return words.get(at).text.equals(word);
        }

        void take(String word) throws Fault {
            takeOneOf(List.of(word));
        }

        String takeOneOf(List<String> texts) throws Fault {
            if (!texts.contains(words.get(at).text)) {
                throw new Fault(words.get(at).place);
            }
            return words.get(at++).text;
        }

        String takeName() throws Fault {
            String text = words.get(at).text;
            if (!text.matches("[a-z]{1,8}") || NO_NAMES.contains(text)) {
                throw new Fault(words.get(at).place);
            }
            return words.get(at++).text;
        }

        String takeNumber() throws Fault {
            if (!words.get(at).text.matches("[0-9]{1,3}|a")) {
                throw new Fault(words.get(at).place);
            }
            return words.get(at++).text;
        }
    }

    private static void settle(Kind kind, int number, Kind above, int home, int pack) {
        kind.number = number;
        kind.above = above;
        kind.home = home;
        kind.pack = pack;
    }

    private static Kind named(String name, List<Kind> among) {
        return among.stream().filter(kind -> kind.name.equals(name)).findFirst().orElse(null);
    }

    /** The package of the pack after with; null without such a pack. */
    private Integer homeOf(String with) {
        if (with.equals("house")) {
            return 0;
        }
        Integer home = null;
        for (Pack pack : packs) {
            home = pack.name.equals(with) ? Integer.valueOf(pack.home) : home;
        }
        return home;
    }

    private int newHome() {
        return 1 + packs.stream().mapToInt(Pack::home).max().orElse(0);
    }

    private List<Found> faultsOf(Text text, List<Kind> read) {
        List<Found> faults = new ArrayList<>();
        Integer home = text.with == null ? Integer.valueOf(newHome()) : homeOf(text.with);
        if (home == null) {
            faults.add(new Found(2, text.withPlace));
            return faults;
        }
        List<Kind> there = new ArrayList<>(kinds);
        for (Kind kind : read) {
            Kind above = named(kind.under, there);
            if (named(kind.name, there) != null) {
                faults.add(new Found(2, kind.namePlace));
            }
            if (above == null) {
                faults.add(new Found(2, kind.underPlace));
                return faults;
            }
            settle(kind, there.size(), above, home, packs.size());
            faultsOfBodies(kind, faults);
            there.add(kind);
        }
        return faults;
    }

    private void faultsOfBodies(Kind kind, List<Found> faults) {
        List<String> hooks = new ArrayList<>();
        for (Body body : kind.bodies) {
            if (hooks.contains(body.hook)) {
                faults.add(new Found(3, body.place));
            }
            hooks.add(body.hook);
            for (Kind upper = kind.above; upper != null; upper = upper.above) {
                if (overrides(kind, upper, body.hook)) {
                    if (body.right > upper.of(body.hook).right) {
                        faults.add(new Found(4, body.place));
                    }
                    if (upper.of(body.hook).last) {
                        faults.add(new Found(5, body.place));
                    }
                }
            }
            faultsOfActions(kind, body, body.actions, faults);
        }
    }

    private void faultsOfActions(Kind kind, Body body, List<Action> actions, List<Found> faults) {
        for (Action action : actions) {
            boolean up = action.what.equals("up") && resolved(kind, body.hook, kind.above) == null;
            boolean call = action.what.equals("call") && resolved(kind, action.n, kind) == null;
            if (up || call) {
                faults.add(new Found(6, action.place));
            }
            if (action.what.equals("refuse") && !body.hook.equals("check")) {
                faults.add(new Found(7, action.place));
            }
            faultsOfActions(kind, body, action.first, faults);
            faultsOfActions(kind, body, action.other, faults);
        }
    }

    private static int rank(Found fault) {
        return fault.number == 5 ? 35 : fault.number * 10;
    }

    // ---- Terms 3

    private void run(Kind kind, String hook, int underWay) throws Stop {
        if (underWay == 12) {
            throw new Spent();
        }
        ran.add(new int[] {kind.number, HOOKS.indexOf(hook), underWay});
        runActions(kind, hook, kind.of(hook).actions, underWay + 1);
    }

    private void runActions(Kind kind, String hook, List<Action> actions, int underWay) throws Stop {
        for (Action action : actions) {
            if (ticks == 400) {
                throw new Spent();
            }
            ticks++;
            if (action.what.equals("up")) {
                run(resolved(kind, hook, kind.above), hook, underWay);
            } else if (action.what.equals("call")) {
                run(chosen(resolved(kind, action.n, kind), action.n, kindOf.get(app)), action.n, underWay);
            } else if (action.what.equals("try")) {
                try {
                    runActions(kind, hook, action.first, underWay);
                } catch (Fails e) {
                    runActions(kind, hook, action.other, underWay);
                }
            } else {
                int n = action.n.equals("a") ? a : Integer.parseInt(action.n);
                if (action.what.equals("less")) {
                    runActions(kind, hook, a < n ? action.first : action.other, underWay);
                } else {
                    runPlain(action.what, n);
                }
            }
        }
    }

    private void runPlain(String what, int n) throws Stop {
        int[] own = stores.get(app);
        switch (what) {
            case "say" -> told.add(n);
            case "add" -> {
                failIf(own[0] + n > sizeOf.get(app), 1001);
                own[0] += n;
                sums[2] += n;
            }
            case "take" -> {
                failIf(n > own[0], 1000);
                own[0] -= n;
                sums[3] += n;
            }
            case "warm" -> {
                failIf(own[1] + n > 100000, 1002);
                own[1] += n;
                sums[6] += n;
            }
            case "fail" -> failIf(true, n);
            default -> {
                failIf(!inCheck, n + 2000);
                throw new Refused(n);
            }
        }
    }

    private static void failIf(boolean fails, int number) throws Fails {
        if (fails) {
            throw new Fails(number);
        }
    }

    private void runTemplate(String hook) throws Stop {
        run(chosen(kinds.get(0), hook, kindOf.get(app)), hook, 0);
    }

    private void template() throws Stop {
        Fails failure = null;
        try {
            inCheck = true;
            runTemplate("check");
            inCheck = false;
            for (String hook : List.of("before", "step", "after", "note")) {
                runTemplate(hook);
            }
        } catch (Fails e) {
            failure = e;
        }
        inCheck = false;
        try {
            runTemplate("close");
        } catch (Fails e) {
            failure = failure == null ? e : failure;
        }
        if (failure != null) {
            throw failure;
        }
    }

    private Stores copyOfStores() {
        List<int[]> copy = new ArrayList<>();
        stores.forEach(each -> copy.add(each.clone()));
        return new Stores(copy, sums.clone());
    }

    /** Apparatus that were made behind the copy have got nothing that is to stay. */
    private void takeBack(Stores ahead) {
        int many = stores.size();
        stores = new ArrayList<>(ahead.waterAndHeat);
        sums = ahead.sums;
        while (stores.size() < many) {
            stores.add(new int[2]);
        }
    }

    // ---- the promises

    private int tell(int finding) {
        found.merge(finding, 1, Integer::sum);
        return finding;
    }

    private static boolean within(int i, int many) {
        return i >= 0 && i < many;
    }

    int feed(long w, int n) {
        if (n < 1 || n > 8) {
            return tell(BEYOND);
        }
        if (tape.size() + n > 800) {
            return tell(FULL);
        }
        for (int i = 0; i < n; i++) {
            tape.write((int) (w >> 8 * i & 255));
        }
        return tape.size();
    }

    int pack() {
        String bytes = tape.toString(StandardCharsets.ISO_8859_1);
        tape.reset();
        place = -1;
        Text text;
        List<Kind> read;
        try {
            text = new Text(bytes);
            read = text.read();
        } catch (Fault e) {
            place = e.place;
            return 1;
        }
        List<Found> faults = faultsOf(text, read);
        if (!faults.isEmpty()) {
            faults.sort(Comparator.comparing(Found::place).thenComparing(PlainHouse::rank));
            place = faults.get(0).place;
            return faults.get(0).number;
        }
        if (kinds.size() + read.size() > 40 || packs.size() + 1 > 12) {
            return tell(FULL);
        }
        kinds.addAll(read);
        packs.add(new Pack(text.name, read.get(0).home));
        return 0;
    }

    int place() {
        return place;
    }

    int retire(int i) {
        if (!within(i, packs.size())) {
            return tell(BEYOND);
        }
        if (retired.contains(i)) {
            return 0;
        }
        retired.add(i);
        return 1;
    }

    int kind(int k, int what) {
        if (!within(k, kinds.size()) || !within(what, 5)) {
            return tell(BEYOND);
        }
        Kind kind = kinds.get(k);
        int bits = 0;
        int under = 0;
        for (Body body : kind.bodies) {
            bits |= 1 << HOOKS.indexOf(body.hook);
        }
        for (Kind other : kinds) {
            under += kind.isUnder(other) ? 1 : 0;
        }
        return new int[] {kind.home, kind.above == null ? -7 : kind.above.number, kind.pack, bits, under}[what];
    }

    int body(int k, int hook, int what) {
        if (!within(k, kinds.size()) || !within(hook, 6) || !within(what, 3)) {
            return tell(BEYOND);
        }
        Body body = kinds.get(k).of(HOOKS.get(hook));
        return body == null ? tell(NONE) : new int[] {body.right, body.last ? 1 : 0, body.size()}[what];
    }

    int overrides(int k, int hook, int j) {
        if (!within(k, kinds.size()) || !within(hook, 6) || !within(j, kinds.size())) {
            return tell(BEYOND);
        }
        String name = HOOKS.get(hook);
        if (kinds.get(k).of(name) == null || kinds.get(j).of(name) == null) {
            return tell(NONE);
        }
        return overrides(kinds.get(k), kinds.get(j), name) ? 1 : 0;
    }

    int chosen(int j, int hook, int k) {
        if (!within(k, kinds.size()) || !within(hook, 6) || !within(j, kinds.size())) {
            return tell(BEYOND);
        }
        Kind chosen = chosen(kinds.get(j), HOOKS.get(hook), kinds.get(k));
        return chosen == null ? tell(NONE) : chosen.number;
    }

    int resolved(int k, int hook, boolean above) {
        if (!within(k, kinds.size()) || !within(hook, 6)) {
            return tell(BEYOND);
        }
        Kind kind = kinds.get(k);
        Kind resolved = resolved(kind, HOOKS.get(hook), above ? kind.above : kind);
        return resolved == null ? tell(NONE) : resolved.number;
    }

    int count(int what) {
        int[] counts = {kinds.size(), packs.size(), stores.size(), entries.size()};
        return within(what, 4) ? counts[what] : tell(BEYOND);
    }

    int make(int kind, int size) {
        if (!within(kind, kinds.size()) || !within(size, 10001)) {
            return tell(BEYOND);
        }
        if (retired.contains(kinds.get(kind).pack)) {
            return tell(GONE);
        }
        if (stores.size() == 20) {
            return tell(FULL);
        }
        kindOf.add(kinds.get(kind));
        sizeOf.add(size);
        stores.add(new int[2]);
        return stores.size() - 1;
    }

    private boolean fits(int to, int water, int heat) {
        return stores.get(to)[0] + water <= sizeOf.get(to) && stores.get(to)[1] + heat <= 100000;
    }

    int charge(int to, int water, int heat) {
        if (!within(to, stores.size()) || !within(water, 100001) || !within(heat, 100001)) {
            return tell(BEYOND);
        }
        if (!fits(to, water, heat)) {
            return tell(FULL);
        }
        entries.add(new Entry(1, to, water, copyOfStores()));
        stores.get(to)[0] += water;
        stores.get(to)[1] += heat;
        sums[1] += water;
        sums[5] += heat;
        return stores.get(to)[0];
    }

    int pour(int from, int to, int n) {
        if (!within(from, stores.size()) || !within(to, stores.size()) || from == to || n < 1
            || n > stores.get(from)[0]) {
            return tell(BEYOND);
        }
        int heat = (int) ((long) stores.get(from)[1] * n / stores.get(from)[0]);
        if (!fits(to, n, heat)) {
            return tell(FULL);
        }
        entries.add(new Entry(2, from, n, copyOfStores()));
        stores.get(from)[0] -= n;
        stores.get(from)[1] -= heat;
        stores.get(to)[0] += n;
        stores.get(to)[1] += heat;
        return heat;
    }

    int act(int of, int with) {
        if (!within(of, stores.size()) || !within(with, 1000)) {
            return tell(BEYOND);
        }
        app = of;
        a = with;
        number = 0;
        ticks = 0;
        ran.clear();
        told.clear();
        Stores ahead = copyOfStores();
        try {
            template();
        } catch (Stop e) {
            takeBack(ahead);
            number = e.number;
            return e instanceof Refused ? 1 : e instanceof Fails ? 2 : 3;
        }
        entries.add(new Entry(0, of, with, ahead));
        return 0;
    }

    int outcome(int what) {
        return within(what, 4) ? new int[] {number, ran.size(), told.size(), ticks}[what] : tell(BEYOND);
    }

    int ran(int i, int what) {
        return within(i, ran.size()) && within(what, 3) ? ran.get(i)[what] : tell(BEYOND);
    }

    int said(int i) {
        return within(i, told.size()) ? told.get(i) : tell(BEYOND);
    }

    int apparatus(int of, int what) {
        if (!within(of, stores.size()) || !within(what, 4)) {
            return tell(BEYOND);
        }
        return new int[] {kindOf.get(of).number, sizeOf.get(of), stores.get(of)[0], stores.get(of)[1]}[what];
    }

    long all(int what) {
        if (!within(what, 7)) {
            return tell(BEYOND);
        }
        long[] all = Arrays.copyOf(sums, 7);
        for (int[] each : stores) {
            all[0] += each[0];
            all[4] += each[1];
        }
        return all[what];
    }

    int record(int i, int what) {
        if (!within(i, entries.size()) || !within(what, 3)) {
            return tell(BEYOND);
        }
        Entry entry = entries.get(i);
        return new int[] {entry.what, entry.app, entry.n}[what];
    }

    int undo() {
        if (entries.isEmpty()) {
            return tell(NONE);
        }
        takeBack(entries.remove(entries.size() - 1).ahead);
        return entries.size();
    }

    int found(int finding) {
        return finding >= -4 && finding <= -1 ? found.getOrDefault(finding, 0) : tell(BEYOND);
    }
}
