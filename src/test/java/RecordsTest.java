/** Promises 20 to 23: sums, records, what is taken back, and findings. */
public final class RecordsTest {
    private static final Due due = new Due("RecordsTest");

    public static void main(String[] args) {
        sumsAndUndo();
        records();
        undoOfAct();
        findings();
        manyRecords();
        due.end();
    }

    private static void sums(StillHouse x, long... want) {
        for (int what = 0; what < want.length; what++) {
            due.is("all(" + what + ")", x.all(what), want[what]);
        }
    }

    private static StillHouse house() {
        StillHouse x = new StillHouse();
        due.taken(x, "pack p { kind b under still { open step { add 5; take 2; warm a; less 9 { fail 1; } } } }");
        due.is("make", x.make(3, 100), 0);
        due.is("make", x.make(0, 60), 1);
        return x;
    }

    private static void sumsAndUndo() {
        StillHouse x = house();
        due.is("undo", x.undo(), -2);
        due.is("charge", x.charge(0, 10, 33), 10);
        due.is("charge", x.charge(1, 7, 1), 7);
        sums(x, 17, 17, 0, 0, 34, 34, 0);
        due.is("act", x.act(0, 100), 0);
        sums(x, 20, 17, 5, 2, 134, 34, 100);
        due.is("act", x.act(0, 8), 2);
        sums(x, 20, 17, 5, 2, 134, 34, 100);
        due.is("pour", x.pour(0, 1, 4), 40);
        sums(x, 20, 17, 5, 2, 134, 34, 100);
        due.is("act", x.act(0, 50), 0);
        sums(x, 23, 17, 10, 4, 184, 34, 150);
        due.is("count", x.count(3), 5);
        due.is("undo the act", x.undo(), 4);
        sums(x, 20, 17, 5, 2, 134, 34, 100);
        due.is("undo the pour", x.undo(), 3);
        due.is("water", x.apparatus(0, 2), 13);
        due.is("heat", x.apparatus(0, 3), 133);
        due.is("water", x.apparatus(1, 2), 7);
        due.is("heat", x.apparatus(1, 3), 1);
        due.is("undo the act", x.undo(), 2);
        sums(x, 17, 17, 0, 0, 34, 34, 0);
        due.is("water", x.apparatus(0, 2), 10);
        due.is("heat", x.apparatus(0, 3), 33);
        due.is("undo the charge", x.undo(), 1);
        sums(x, 10, 10, 0, 0, 33, 33, 0);
        due.is("undo the charge", x.undo(), 0);
        sums(x, 0, 0, 0, 0, 0, 0, 0);
        due.is("undo", x.undo(), -2);
        due.is("apparatus stay", x.count(2), 2);
        due.is("all", x.all(7), -1);
        due.is("all", x.all(-1), -1);
        due.is("found", x.found(-1), 2);
        due.is("found", x.found(-2), 2);
    }

    private static void records() {
        StillHouse x = house();
        due.is("record", x.record(0, 0), -1);
        due.is("charge", x.charge(1, 50, 5), 50);
        due.is("pour", x.pour(1, 0, 20), 2);
        due.is("act", x.act(0, 77), 0);
        due.is("refused by size", x.charge(1, 50, 0), -3);
        int[][] want = {{1, 1, 50}, {2, 1, 20}, {0, 0, 77}};
        for (int i = 0; i < want.length; i++) {
            for (int what = 0; what < 3; what++) {
                due.is("record", x.record(i, what), want[i][what]);
            }
        }
        due.is("record", x.record(0, 3), -1);
        due.is("record", x.record(0, -1), -1);
        due.is("record", x.record(3, 0), -1);
        due.is("record", x.record(-1, 0), -1);
        due.is("undo", x.undo(), 2);
        due.is("record", x.record(2, 0), -1);
        due.is("charge", x.charge(0, 0, 9), 20);
        due.is("record", x.record(2, 0), 1);
        due.is("record", x.record(2, 2), 0);
    }

    /** What the latest act told stays, even if the act is taken back. */
    private static void undoOfAct() {
        StillHouse x = house();
        due.is("act", x.act(0, 77), 0);
        due.is("undo", x.undo(), 0);
        due.told("the tale stays", x, 0, 1, 3, 4, 5);
        due.is("retired packs stay so", x.retire(0), 1);
        due.is("act", x.act(0, 77), 0);
        due.is("undo", x.undo(), 0);
        due.is("retired packs stay so", x.retire(0), 0);
    }

    private static void findings() {
        StillHouse x = house();
        due.is("found", x.found(0), -1);
        due.is("found", x.found(-5), -1);
        due.is("found", x.found(1), -1);
        due.is("found", x.found(Integer.MIN_VALUE), -1);
        due.is("found", x.found(-1), 4);
        due.is("found", x.found(-1), 4);
        due.is("body", x.body(3, 0, 0), -2);
        due.is("overrides", x.overrides(3, 0, 0), -2);
        due.is("chosen", x.chosen(3, 0, 3), -2);
        due.is("resolved", x.resolved(0, 0, true), -2);
        due.is("undo", x.undo(), -2);
        due.is("found", x.found(-2), 5);
        due.is("place is no finding", x.place(), -1);
        due.is("charge", x.charge(0, 101, 0), -3);
        due.is("found", x.found(-3), 1);
        due.is("retire", x.retire(0), 1);
        due.is("make", x.make(3, 1), -4);
        due.is("make", x.make(3, 1), -4);
        due.is("found", x.found(-4), 2);
        due.is("found", x.found(-1), 4);
    }

    /** Nearly all of the 512 calls make records; calls beyond them must not fail, whatever they answer. */
    private static void manyRecords() {
        StillHouse x = new StillHouse();
        due.is("make", x.make(2, 10000), 0);
        for (int i = 1; i < 510; i++) {
            due.is("act", x.act(0, i), 0);
        }
        due.is("count", x.count(3), 509);
        due.is("all", x.all(2), 509);
        for (int i = 0; i < 600; i++) {
            x.act(0, 1);
            x.charge(0, 1, 1);
            x.undo();
            x.charge(0, 1, 1);
        }
        for (int i = 0; i < 700; i++) {
            x.undo();
        }
        due.is("all is taken back", x.all(0), 0);
    }
}
