import java.util.ArrayList;
import java.util.List;
import java.util.function.ToLongFunction;

/** The boundary cases of apparatus, records and findings (Terms: findings, 3; promises 12 to 14, 19 to 23). */
public final class EdgesOfStoresTest {
    private static final Due due = new Due("EdgesOfStoresTest");
    private static final int[] FAR = {Integer.MIN_VALUE, -1000000, -5, 100002, Integer.MAX_VALUE};

    public static void main(String[] args) {
        nothingAtFirst();
        makeBeyond();
        makeGone();
        makeFull();
        makeInOrder();
        chargeAnswers();
        chargeBeyond();
        chargeFull();
        pourAnswers();
        pourBeyond();
        pourFull();
        apparatusBeyond();
        sumsOverAll();
        sumsOfActsTakenBack();
        greatestSums();
        records();
        recordsOfWhatWasDone();
        recordBeyond();
        undoEach();
        undoNone();
        foundEach();
        foundBeyond();
        findingsChangeNothing();
        lastCall();
        due.end();
    }

    /** Kinds 3 (of pack 0) and 4 (of pack 1), of which pack 1 is retired; apparatus 0 (size 100), 1 (60) and 2 (0). */
    private static StillHouse house() {
        StillHouse x = new StillHouse();
        Due.pack(x, "pack p { kind b under still { open check { less 2 { refuse 7; } } open step { add 5; take 2; warm a; "
            + "less 4 { fail 8; } less 6 { call step; } } } }");
        Due.pack(x, "pack q { kind c under still { } }");
        x.retire(1);
        x.make(3, 100);
        x.make(0, 60);
        x.make(0, 0);
        return x;
    }

    private static void sums(StillHouse x, long... want) {
        for (int what = 0; what < 7; what++) {
            due.is("all(" + what + ")", x.all(what), want[what]);
        }
    }

    private static void holds(StillHouse x, int app, int water, int heat) {
        due.is("water of " + app, x.apparatus(app, 2), water);
        due.is("heat of " + app, x.apparatus(app, 3), heat);
    }

    private static void nothingAtFirst() {
        due.sentence("APPARATUS 0, 1, .. (at most 20) are of a kind, have a SIZE, WATER and HEAT (0 at first).");
        StillHouse x = new StillHouse();
        for (int i = 0; i < 20; i++) {
            due.is("make", x.make(i % 3, i * 500), i);
        }
        for (int i = 0; i < 20; i++) {
            due.is("kind", x.apparatus(i, 0), i % 3);
            due.is("size", x.apparatus(i, 1), i * 500);
            holds(x, i, 0, 0);
        }
        due.is("apparatus", x.count(2), 20);
    }

    private static void makeBeyond() {
        due.sentence("BEYOND: there is no such kind, or size isn't 0 .. 10000.");
        StillHouse x = new StillHouse();
        due.is("kind 3", x.make(3, 1), -1);
        due.is("kind -1", x.make(-1, 1), -1);
        due.is("size -1", x.make(2, -1), -1);
        due.is("size 10001", x.make(2, 10001), -1);
        for (int far : FAR) {
            due.is("make", x.make(far, 1), -1);
            due.is("make", x.make(0, far), -1);
        }
        due.is("found(-1)", x.found(-1), 4 + 10);
        due.is("count(2)", x.count(2), 0);
        due.is("kind 2, size 0", x.make(2, 0), 0);
        due.is("kind 0, size 10000", x.make(0, 10000), 1);
        due.is("size 1", x.make(0, 1), 2);
        due.is("size 9999", x.make(0, 9999), 3);
        due.is("size", x.apparatus(1, 1), 10000);
    }

    private static void makeGone() {
        due.sentence("GONE: its kind's pack is retired.");
        StillHouse x = house();
        due.is("retired", x.make(4, 1), -4);
        due.is("not retired", x.make(3, 1), 3);
        due.is("the house's", x.make(0, 1), 4);
        due.is("found(-4)", x.found(-4), 1);
    }

    private static void makeFull() {
        due.sentence("FULL: there are 20.");
        StillHouse x = house();
        for (int i = 3; i < 20; i++) {
            due.is("make", x.make(0, 1), i);
        }
        due.is("the 21st", x.make(0, 1), -3);
        due.is("the 21st", x.make(0, 1), -3);
        due.is("found(-3)", x.found(-3), 2);
        due.is("count(2)", x.count(2), 20);
        due.is("charge(19)", x.charge(19, 1, 1), 1);
        due.is("charge(20)", x.charge(20, 1, 1), -1);
    }

    private static void makeInOrder() {
        due.sentence("Each act tells its findings in the order in which they are asked");
        StillHouse x = house();
        due.is("beyond ahead of gone", x.make(4, 10001), -1);
        for (int i = 3; i < 20; i++) {
            due.is("make", x.make(0, 1), i);
        }
        due.is("beyond ahead of full", x.make(0, -1), -1);
        due.is("beyond ahead of full", x.make(5, 1), -1);
        due.is("gone ahead of full", x.make(4, 1), -4);
        due.is("charge: beyond ahead of full", x.charge(1, 61, 100001), -1);
        due.is("charge: beyond ahead of full", x.charge(1, -1, 100000), -1);
        due.is("charge", x.charge(1, 60, 100000), 60);
        due.is("charge", x.charge(0, 1, 0), 1);
        due.is("pour: beyond ahead of full", x.pour(0, 1, 2), -1);
        due.is("pour: full", x.pour(0, 1, 1), -3);
    }

    private static void chargeAnswers() {
        due.sentence("Water and heat come to an apparatus from outside: its water then.");
        StillHouse x = house();
        due.is("charge", x.charge(0, 7, 9), 7);
        due.is("charge", x.charge(0, 8, 0), 15);
        due.is("charge", x.charge(0, 0, 5), 15);
        due.is("charge", x.charge(0, 0, 0), 15);
        holds(x, 0, 15, 14);
        holds(x, 1, 0, 0);
        due.is("records", x.count(3), 4);
    }

    private static void chargeBeyond() {
        due.sentence("BEYOND: there is no such one, water or heat is below 0 or above 100000.");
        StillHouse x = house();
        due.is("apparatus 3", x.charge(3, 0, 0), -1);
        due.is("apparatus -1", x.charge(-1, 0, 0), -1);
        due.is("water -1", x.charge(0, -1, 0), -1);
        due.is("heat -1", x.charge(0, 0, -1), -1);
        due.is("water 100001", x.charge(0, 100001, 0), -1);
        due.is("heat 100001", x.charge(0, 0, 100001), -1);
        for (int far : FAR) {
            due.is("charge", x.charge(far, 0, 0), -1);
            due.is("charge", x.charge(0, far, 0), -1);
            due.is("charge", x.charge(0, 0, far), -1);
        }
        due.is("found(-1)", x.found(-1), 6 + 15);
        due.is("water 100000 is too much, but not beyond", x.charge(0, 100000, 0), -3);
        due.is("heat 100000", x.charge(2, 0, 100000), 0);
        due.is("water 0, heat 0", x.charge(2, 0, 0), 0);
        due.is("found(-1)", x.found(-1), 6 + 15);
    }

    private static void chargeFull() {
        due.sentence("FULL: it would have more water than its size, or more heat than 100000.");
        StillHouse x = house();
        due.is("101 of 100", x.charge(0, 101, 0), -3);
        due.is("100 of 100", x.charge(0, 100, 0), 100);
        due.is("one more", x.charge(0, 1, 0), -3);
        due.is("none more", x.charge(0, 0, 0), 100);
        due.is("1 of 0", x.charge(2, 1, 0), -3);
        due.is("heat", x.charge(0, 0, 99999), 100);
        due.is("two more", x.charge(0, 0, 2), -3);
        due.is("one more", x.charge(0, 0, 1), 100);
        due.is("one more", x.charge(0, 0, 1), -3);
        due.is("all of it at once", x.charge(0, 0, 100000), -3);
        due.is("both", x.charge(1, 60, 100000), 60);
        due.is("found(-3)", x.found(-3), 6);
        holds(x, 0, 100, 100000);
        holds(x, 1, 60, 100000);
        x = house();
        due.is("the water is right, the heat is not", x.charge(0, 0, 1), 0);
        due.is("the water is right, the heat is not", x.charge(0, 5, 100000), -3);
        due.is("the heat is right, the water is not", x.charge(0, 101, 5), -3);
        holds(x, 0, 0, 1);
        due.is("make", x.make(0, 10000), 3);
        due.is("10001 of 10000", x.charge(3, 10001, 0), -3);
        due.is("10000 of 10000", x.charge(3, 10000, 0), 10000);
    }

    private static void pourAnswers() {
        due.sentence("Water goes from an apparatus to another one, and as many whole parts of its heat as of its water (heat times n "
            + "by water, cut): how much heat went.");
        int[][] cases = {{10, 0, 3, 0}, {10, 1, 9, 0}, {10, 1, 10, 1}, {3, 10, 1, 3}, {3, 10, 2, 6}, {3, 10, 3, 10}, {7, 6, 1, 0},
            {7, 7, 1, 1}, {7, 13, 1, 1}, {7, 14, 1, 2}, {60, 100000, 59, 98333}, {60, 100000, 60, 100000}, {1, 99999, 1, 99999}};
        for (int[] of : cases) {
            StillHouse x = house();
            due.is("charge", x.charge(0, of[0], of[1]), of[0]);
            due.is("pour", x.pour(0, 1, of[2]), of[3]);
            holds(x, 0, of[0] - of[2], of[1] - of[3]);
            holds(x, 1, of[2], of[3]);
        }
        // Heat times water is more than an int holds.
        StillHouse x = new StillHouse();
        due.is("make", x.make(0, 10000), 0);
        due.is("make", x.make(0, 10000), 1);
        due.is("charge", x.charge(0, 10000, 100000), 10000);
        due.is("pour", x.pour(0, 1, 9999), 99990);
        due.is("pour", x.pour(1, 0, 9999), 99990);
        due.is("pour", x.pour(0, 1, 10000), 100000);
        holds(x, 0, 0, 0);
        holds(x, 1, 10000, 100000);
    }

    private static void pourBeyond() {
        due.sentence("BEYOND: one of them isn't there, they are the same, or n is below 1, or more than the one has.");
        StillHouse x = house();
        due.is("charge", x.charge(0, 5, 5), 5);
        due.is("from 3", x.pour(3, 0, 1), -1);
        due.is("from -1", x.pour(-1, 0, 1), -1);
        due.is("to 3", x.pour(0, 3, 1), -1);
        due.is("to -1", x.pour(0, -1, 1), -1);
        due.is("the same", x.pour(0, 0, 1), -1);
        due.is("n 0", x.pour(0, 1, 0), -1);
        due.is("n -1", x.pour(0, 1, -1), -1);
        due.is("n 6 of 5", x.pour(0, 1, 6), -1);
        due.is("of an empty one", x.pour(1, 0, 1), -1);
        due.is("nothing of an empty one", x.pour(1, 0, 0), -1);
        for (int far : FAR) {
            due.is("pour", x.pour(far, 0, 1), -1);
            due.is("pour", x.pour(0, far, 1), -1);
            due.is("pour", x.pour(0, 1, far), -1);
        }
        due.is("found(-1)", x.found(-1), 10 + 15);
        due.is("records", x.count(3), 1);
        due.is("n 1", x.pour(0, 1, 1), 1);
        due.is("n 4 of 4", x.pour(0, 1, 4), 4);
        due.is("n 1 of 0", x.pour(0, 1, 1), -1);
    }

    private static void pourFull() {
        due.sentence("FULL: of the other one, as of charge().");
        StillHouse x = house();
        due.is("charge", x.charge(0, 100, 1000), 100);
        due.is("61 to 60", x.pour(0, 1, 61), -3);
        due.is("1 to 0", x.pour(0, 2, 1), -3);
        due.is("60 to 60", x.pour(0, 1, 60), 600);
        due.is("one more", x.pour(0, 1, 1), -3);
        holds(x, 0, 40, 400);
        holds(x, 1, 60, 600);
        x = house();
        due.is("charge", x.charge(0, 10, 100), 10);
        due.is("charge", x.charge(1, 1, 99980), 1);
        due.is("30 heat to 99980", x.pour(0, 1, 3), -3);
        due.is("20 heat to 99980", x.pour(0, 1, 2), 20);
        due.is("10 heat to 100000", x.pour(0, 1, 1), -3);
        holds(x, 0, 8, 80);
        holds(x, 1, 3, 100000);
        due.is("found(-3)", x.found(-3), 2);
        due.is("the giver may have as much heat as there can be", x.pour(1, 0, 1), 33333);
    }

    private static void apparatusBeyond() {
        due.sentence("Of an apparatus: 0 its kind, 1 its size, 2 its water, 3 its heat. BEYOND: there is none such, or another what.");
        StillHouse x = house();
        due.is("none such", new StillHouse().apparatus(0, 0), -1);
        due.is("charge", x.charge(0, 7, 9), 7);
        int[] want = {3, 100, 7, 9};
        for (int what = 0; what < 4; what++) {
            due.is("apparatus(0, " + what + ")", x.apparatus(0, what), want[what]);
            due.is("apparatus 3", x.apparatus(3, what), -1);
            due.is("apparatus -1", x.apparatus(-1, what), -1);
        }
        due.is("apparatus 2", x.apparatus(2, 1), 0);
        due.is("what 4", x.apparatus(0, 4), -1);
        due.is("what -1", x.apparatus(0, -1), -1);
        for (int far : FAR) {
            due.is("apparatus", x.apparatus(far, 0), -1);
            due.is("apparatus", x.apparatus(0, far), -1);
        }
        due.is("found(-1)", x.found(-1), 8 + 2 + 10);
    }

    private static void sumsOverAll() {
        due.sentence("Over all: 0 water that apparatus have, 1 that came by charge(), 2 by add, 3 that went by take (of acts that were "
            + "done, not taken back), 4 to 6 heat that they have, that came by charge(), by warm.");
        StillHouse x = house();
        sums(x, 0, 0, 0, 0, 0, 0, 0);
        due.is("charge", x.charge(0, 10, 30), 10);
        sums(x, 10, 10, 0, 0, 30, 30, 0);
        due.is("charge", x.charge(1, 20, 2), 20);
        sums(x, 30, 30, 0, 0, 32, 32, 0);
        due.is("act", x.act(0, 6), 0);
        sums(x, 33, 30, 5, 2, 38, 32, 6);
        due.is("pour", x.pour(1, 0, 10), 1);
        sums(x, 33, 30, 5, 2, 38, 32, 6);
        due.is("refused", x.act(0, 1), 1);
        due.is("failed", x.act(0, 3), 2);
        due.is("spent", x.act(0, 5), 3);
        sums(x, 33, 30, 5, 2, 38, 32, 6);
        due.is("full", x.charge(1, 60, 0), -3);
        due.is("full", x.pour(0, 2, 1), -3);
        sums(x, 33, 30, 5, 2, 38, 32, 6);
    }

    private static void sumsOfActsTakenBack() {
        due.sentence("(of acts that were done, not taken back)");
        StillHouse x = house();
        due.is("act", x.act(0, 10), 0);
        due.is("act", x.act(0, 20), 0);
        sums(x, 6, 0, 10, 4, 30, 0, 30);
        due.is("undo", x.undo(), 1);
        sums(x, 3, 0, 5, 2, 10, 0, 10);
        due.is("charge", x.charge(0, 1, 1), 4);
        due.is("undo", x.undo(), 1);
        due.is("undo", x.undo(), 0);
        sums(x, 0, 0, 0, 0, 0, 0, 0);
    }

    private static void greatestSums() {
        due.sentence("0 water that apparatus have, 1 that came by charge()");
        StillHouse x = new StillHouse();
        for (int i = 0; i < 20; i++) {
            due.is("make", x.make(0, 10000), i);
            due.is("charge", x.charge(i, 10000, 100000), 10000);
        }
        sums(x, 200000, 200000, 0, 0, 2000000, 2000000, 0);
    }

    private static void records() {
        due.sentence("0 what (0 act, 1 charge, 2 pour), 1 the apparatus (of pour the one from which), 2 a (charge, pour: the water).");
        StillHouse x = house();
        due.is("charge", x.charge(1, 20, 30), 20);
        due.is("pour", x.pour(1, 0, 5), 7);
        due.is("act", x.act(0, 999), 0);
        due.is("charge", x.charge(2, 0, 44), 0);
        int[][] want = {{1, 1, 20}, {2, 1, 5}, {0, 0, 999}, {1, 2, 0}};
        for (int i = 0; i < want.length; i++) {
            for (int what = 0; what < 3; what++) {
                due.is("record(" + i + ", " + what + ")", x.record(i, what), want[i][what]);
            }
        }
    }

    private static void recordsOfWhatWasDone() {
        due.sentence("Record i, one for each act that was done, charge() or pour() and not taken back");
        StillHouse x = house();
        due.is("refused", x.act(0, 1), 1);
        due.is("failed", x.act(0, 3), 2);
        due.is("spent", x.act(0, 5), 3);
        due.is("beyond", x.act(0, 1000), -1);
        due.is("full", x.charge(0, 101, 0), -3);
        due.is("beyond", x.pour(0, 1, 1), -1);
        due.is("records", x.count(3), 0);
        due.is("of nothing", x.charge(0, 0, 0), 0);
        due.is("records", x.count(3), 1);
        due.is("done", x.act(0, 6), 0);
        due.is("done, though it changes nothing", x.act(1, 6), 0);
        due.is("records", x.count(3), 3);
        due.is("undo", x.undo(), 2);
        due.is("the record is gone", x.record(2, 0), -1);
        due.is("pour", x.pour(0, 1, 1), 2);
        due.is("the next is in its place", x.record(2, 0), 2);
    }

    private static void recordBeyond() {
        due.sentence("BEYOND: there is none such, or another what.");
        StillHouse x = house();
        due.is("none such", x.record(0, 0), -1);
        due.is("charge", x.charge(0, 1, 1), 1);
        due.is("charge", x.charge(0, 1, 1), 2);
        due.is("record(1, 2)", x.record(1, 2), 1);
        due.is("record(2, 2)", x.record(2, 2), -1);
        due.is("record(-1, 2)", x.record(-1, 2), -1);
        due.is("what 3", x.record(1, 3), -1);
        due.is("what -1", x.record(1, -1), -1);
        for (int far : FAR) {
            due.is("record", x.record(far, 0), -1);
            due.is("record", x.record(0, far), -1);
        }
        due.is("found(-1)", x.found(-1), 5 + 10);
    }

    private static void undoEach() {
        due.sentence("What the latest record tells is taken back (water, heat, all() and the record): how many records there are then.");
        StillHouse x = new StillHouse();
        due.is("make", x.make(2, 100), 0);
        due.is("make", x.make(0, 60), 1);
        List<String> tales = new ArrayList<>();
        int[] answers = {50, 46, 0, 46};
        for (int i = 0; i < 4; i++) {
            tales.add(Tale.ofStores(x));
            int answer = i == 0 ? x.charge(0, 50, 333) : i == 1 ? x.pour(0, 1, 7) : i == 2 ? x.act(0, 66) : x.pour(1, 0, 7);
            due.is("call " + i, answer, answers[i]);
        }
        for (int i = 3; i >= 0; i--) {
            due.is("undo", x.undo(), i);
            due.is("as ahead of call " + i, Tale.ofStores(x).equals(tales.get(i)) ? 1 : 0, 1);
        }
        due.is("the latest act is told still", x.outcome(1), 8);
    }

    private static void undoNone() {
        due.sentence("NONE: there is none.");
        StillHouse x = house();
        due.is("none", x.undo(), -2);
        due.is("charge", x.charge(0, 0, 0), 0);
        due.is("one", x.undo(), 0);
        due.is("none", x.undo(), -2);
        due.is("found(-2)", x.found(-2), 2);
        due.is("make is no record", x.make(0, 1), 3);
        due.is("none", x.undo(), -2);
    }

    private static void foundEach() {
        due.sentence("How many acts have answered a finding (-1 .. -4)");
        StillHouse x = house();
        for (int i = 1; i <= 3; i++) {
            due.is("beyond", x.act(-1, 0), -1);
            due.is("none", x.undo(), -2);
            due.is("full", x.charge(2, 1, 0), -3);
            due.is("gone", x.make(4, 0), -4);
            for (int finding = -4; finding < 0; finding++) {
                due.is("found(" + finding + ")", x.found(finding), i);
            }
        }
        due.is("no finding", x.kind(0, 1), -7);
        due.is("no finding", x.place(), -1);
        due.is("no finding", x.pack(), 1);
        due.is("no finding", x.act(0, 1), 1);
        due.is("no finding", x.act(0, 3), 2);
        due.is("no finding", x.act(0, 5), 3);
        for (int finding = -4; finding < 0; finding++) {
            due.is("found(" + finding + ")", x.found(finding), 3);
        }
    }

    private static void foundBeyond() {
        due.sentence("BEYOND: another number (counted, too).");
        StillHouse x = new StillHouse();
        due.is("found(-4)", x.found(-4), 0);
        due.is("found(-5)", x.found(-5), -1);
        due.is("found(-1)", x.found(-1), 1);
        due.is("found(0)", x.found(0), -1);
        due.is("found(-1)", x.found(-1), 2);
        for (int far : FAR) {
            due.is("found", x.found(far), -1);
        }
        due.is("found(-1)", x.found(-1), 7);
        due.is("found(-2)", x.found(-2), 0);
        due.is("found(-3)", x.found(-3), 0);
        due.is("found(-4)", x.found(-4), 0);
    }

    private static void findingsChangeNothing() {
        due.sentence("one that answers a finding changes nothing but what found() tells.");
        List<ToLongFunction<StillHouse>> calls = new ArrayList<>();
        calls.add(x -> x.feed(1, 0));
        calls.add(x -> x.feed(1, 9));
        calls.add(x -> x.retire(2));
        calls.add(x -> x.kind(5, 0));
        calls.add(x -> x.kind(0, 5));
        calls.add(x -> x.body(0, 6, 0));
        calls.add(x -> x.body(1, 0, 0));
        calls.add(x -> x.overrides(0, 0, 5));
        calls.add(x -> x.overrides(0, 0, 1));
        calls.add(x -> x.chosen(0, 6, 0));
        calls.add(x -> x.chosen(1, 0, 0));
        calls.add(x -> x.resolved(5, 0, true));
        calls.add(x -> x.resolved(0, 0, true));
        calls.add(x -> x.count(4));
        calls.add(x -> x.make(5, 1));
        calls.add(x -> x.make(0, 10001));
        calls.add(x -> x.make(4, 1));
        calls.add(x -> x.charge(0, -1, 5));
        calls.add(x -> x.charge(0, 5, 100001));
        calls.add(x -> x.charge(0, 1, 100000));
        calls.add(x -> x.charge(2, 1, 1));
        calls.add(x -> x.pour(0, 0, 1));
        calls.add(x -> x.pour(0, 1, 1000));
        calls.add(x -> x.pour(0, 2, 1));
        calls.add(x -> x.act(3, 1));
        calls.add(x -> x.act(0, 1000));
        calls.add(x -> x.outcome(4));
        calls.add(x -> x.ran(0, 3));
        calls.add(x -> x.ran(1000, 0));
        calls.add(x -> x.said(1000));
        calls.add(x -> x.apparatus(0, 4));
        calls.add(x -> x.all(7));
        calls.add(x -> x.record(0, 3));
        calls.add(x -> x.record(1000, 0));
        calls.add(x -> x.found(-5));
        for (int i = 0; i < calls.size(); i++) {
            changesNothing("call " + i, calls.get(i));
        }
        StillHouse x = new StillHouse();
        String ahead = Tale.of(x);
        due.is("undo", x.undo(), -2);
        due.is("undo changes nothing", Tale.of(x).equals(ahead) ? 1 : 0, 1);
    }

    /** Two houses of one past, one of which answers a finding then, tell the same of all but that finding. */
    private static void changesNothing(String name, ToLongFunction<StillHouse> call) {
        StillHouse with = houseWithAPast();
        StillHouse without = houseWithAPast();
        int answer = (int) call.applyAsLong(with);
        due.is(name + " answers a finding", answer <= -1 && answer >= -4 ? 1 : 0, 1);
        due.is(name + " leaves the tape", with.feed(32, 1), without.feed(32, 1));
        due.is(name + " leaves the place", with.place(), without.place());
        due.is(name + " leaves all else", Tale.of(with).equals(Tale.of(without)) ? 1 : 0, 1);
        for (int finding = -4; finding < 0; finding++) {
            due.is(name + ": found", with.found(finding), without.found(finding) + (finding == answer ? 1 : 0));
        }
        due.is(name + ": the next act", with.act(0, 7), without.act(0, 7));
        due.is(name + " leaves what is next", Tale.of(with).equals(Tale.of(without)) ? 1 : 0, 1);
        due.is(name + " leaves the text", with.pack(), 1);
        due.is(name + " leaves the text", with.place(), 5);
    }

    private static StillHouse houseWithAPast() {
        StillHouse x = house();
        x.charge(0, 20, 30);
        x.act(0, 6);
        x.pour(0, 1, 3);
        x.act(0, 3);
        Due.pack(x, "pack p }");
        Due.feed(x, "pack ?");
        return x;
    }

    private static void lastCall() {
        due.sentence("An object is used for at most 512 calls after it has been made; what later calls answer is free.");
        StillHouse x = new StillHouse();
        due.is("call 1", x.make(2, 10000), 0);
        for (int call = 2; call <= 509; call++) {
            due.is("call " + call, x.act(0, call), 0);
        }
        due.is("call 510", x.charge(0, 2, 3), 510);
        due.is("call 511", x.record(508, 2), 2);
        due.is("call 512", x.count(3), 509);
        x = new StillHouse();
        due.is("call 1", x.make(2, 10000), 0);
        for (int call = 2; call <= 511; call++) {
            due.is("call " + call, x.charge(0, 1, 1), call - 1);
        }
        due.is("call 512", x.undo(), 509);
        x = new StillHouse();
        due.is("call 1", x.make(2, 10000), 0);
        for (int call = 2; call <= 512; call++) {
            due.is("call " + call, x.charge(0, 2, 1), 2 * call - 2);
        }
        x = new StillHouse();
        for (int call = 1; call <= 511; call++) {
            due.is("call " + call, x.found(0), -1);
        }
        due.is("call 512", x.found(-1), 511);
        for (int i = 0; i < 2000; i++) {
            x.feed(i, 8);
            x.make(0, 100);
            x.charge(0, 0, 0);
            x.act(0, 1);
            x.pack();
        }
    }
}
