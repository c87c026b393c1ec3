/** Promises 12 to 14, 19: apparatus, and water and heat that come and go without acts. */
public final class ApparatusTest {
    private static final Due due = new Due("ApparatusTest");

    public static void main(String[] args) {
        making();
        charging();
        pouring();
        due.end();
    }

    private static void making() {
        StillHouse x = new StillHouse();
        due.is("make", x.make(3, 1), -1);
        due.is("make", x.make(-1, 1), -1);
        due.is("make", x.make(0, -1), -1);
        due.is("make", x.make(0, 10001), -1);
        due.is("make", x.make(0, 10000), 0);
        due.is("make", x.make(2, 0), 1);
        due.taken(x, "pack p { kind b under still { } }");
        due.is("make", x.make(3, 7), 2);
        for (int i = 3; i < 20; i++) {
            due.is("make", x.make(1, i), i);
        }
        due.is("make the 21st", x.make(1, 1), -3);
        due.is("make the 21st, wrong", x.make(1, -1), -1);
        due.is("retire", x.retire(0), 1);
        due.is("gone ahead of full", x.make(3, 1), -4);
        due.is("beyond ahead of gone", x.make(3, 10001), -1);
        due.is("count", x.count(2), 20);
        int[][] of = {{0, 10000, 0, 0}, {2, 0, 0, 0}, {3, 7, 0, 0}, {1, 3, 0, 0}};
        for (int app = 0; app < of.length; app++) {
            for (int what = 0; what < 4; what++) {
                due.is("apparatus", x.apparatus(app, what), of[app][what]);
            }
        }
        due.is("apparatus", x.apparatus(0, 4), -1);
        due.is("apparatus", x.apparatus(0, -1), -1);
        due.is("apparatus", x.apparatus(20, 0), -1);
        due.is("apparatus", x.apparatus(-1, 0), -1);
        due.is("no record of making", x.count(3), 0);
    }

    private static void charging() {
        StillHouse x = new StillHouse();
        due.is("charge", x.charge(0, 1, 1), -1);
        due.is("make", x.make(0, 50), 0);
        due.is("charge", x.charge(1, 1, 1), -1);
        due.is("charge", x.charge(-1, 1, 1), -1);
        due.is("charge", x.charge(0, -1, 1), -1);
        due.is("charge", x.charge(0, 1, -1), -1);
        due.is("charge", x.charge(0, 100001, 1), -1);
        due.is("charge", x.charge(0, 1, 100001), -1);
        due.is("charge", x.charge(0, 100000, 1), -3);
        due.is("charge", x.charge(0, 51, 0), -3);
        due.is("charge", x.charge(0, 50, 99999), 50);
        due.is("charge", x.charge(0, 0, 2), -3);
        due.is("charge", x.charge(0, 1, 0), -3);
        due.is("charge", x.charge(0, 0, 1), 50);
        due.is("charge", x.charge(0, 0, 0), 50);
        due.is("heat", x.apparatus(0, 3), 100000);
        due.is("records", x.count(3), 3);
        due.is("found", x.found(-1), 7);
        due.is("found", x.found(-3), 4);
    }

    private static void pouring() {
        StillHouse x = new StillHouse();
        due.is("make", x.make(0, 10000), 0);
        due.is("make", x.make(1, 10), 1);
        due.is("charge", x.charge(0, 7, 100), 7);
        due.is("pour", x.pour(0, 2, 1), -1);
        due.is("pour", x.pour(2, 0, 1), -1);
        due.is("pour", x.pour(-1, 0, 1), -1);
        due.is("pour", x.pour(0, 0, 1), -1);
        due.is("pour", x.pour(0, 1, 0), -1);
        due.is("pour", x.pour(0, 1, -1), -1);
        due.is("pour", x.pour(0, 1, 8), -1);
        due.is("pour", x.pour(1, 0, 1), -1);
        due.is("pour cuts", x.pour(0, 1, 3), 42);
        due.is("water", x.apparatus(0, 2), 4);
        due.is("heat", x.apparatus(0, 3), 58);
        due.is("water", x.apparatus(1, 2), 3);
        due.is("heat", x.apparatus(1, 3), 42);
        due.is("pour all of it", x.pour(0, 1, 4), 58);
        due.is("heat", x.apparatus(0, 3), 0);
        due.is("charge", x.charge(0, 10000, 100000), 10000);
        due.is("pour up to the size", x.pour(0, 1, 3), 30);
        due.is("pour too much water", x.pour(0, 1, 1), -3);
        due.is("pour back", x.pour(1, 0, 10), -3);
        due.is("undo", x.undo(), 4);
        due.is("make", x.make(1, 10000), 2);
        due.is("charge", x.charge(2, 0, 100000), 0);
        due.is("pour", x.pour(0, 2, 1), -3);
        due.is("pour", x.pour(0, 1, 3), 30);
        due.is("charge", x.charge(1, 0, 100000), -3);
        // Heat of whole parts below one does not go at all.
        due.is("make", x.make(1, 100), 3);
        due.is("charge", x.charge(3, 90, 50), 90);
        due.is("make", x.make(1, 100), 4);
        due.is("pour", x.pour(3, 4, 1), 0);
        due.is("water", x.apparatus(4, 2), 1);
        due.is("pour", x.pour(0, 4, 1), 10);
    }
}
