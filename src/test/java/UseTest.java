import java.io.IOException;
import java.nio.file.Files;
import java.nio.file.Path;

/** Does what README.md shows, with the answers that it tells, and sees that README.md still shows it. */
public final class UseTest {
    private static final Due due = new Due("UseTest");

    private static int pack(StillHouse house, String text) {
        for (int at = 0; at < text.length(); at += 8) {
            int n = Math.min(8, text.length() - at);
            long w = 0;
            for (int i = 0; i < n; i++) {
                w |= (long) text.charAt(at + i) << (8 * i);
            }
            house.feed(w, n);
        }
        return house.pack();
    }

    public static void main(String[] args) throws IOException {
        StillHouse house = new StillHouse();
        int pot = house.make(1, 50);
        shown("int pot = house.make(1, 50);", pot, 0);
        shown("house.charge(pot, 20, 100);", house.charge(pot, 20, 100), 20);
        int way = house.act(pot, 7);
        shown("int way = house.act(pot, 7);", way, 0);
        int told = house.said(5);
        shown("int told = house.said(5);", told, 14);
        shown("house.undo();", house.undo(), 1);
        String yard = "pack yard { kind tank under still { open step { up; try { take 30; } rescue { warm a; } } } }";
        due.is("the pack", pack(house, yard), 0);
        due.is("the pack stands in README.md", readme().contains("pack(house, \"" + yard + "\");") ? 1 : 0, 1);
        int tank = house.make(3, 100);
        shown("int tank = house.make(3, 100);", tank, 1);
        shown("house.act(tank, 6);", house.act(tank, 6), 0);
        shown("house.apparatus(tank, 3);", house.apparatus(tank, 3), 6);
        theLoopStands();
        due.end();
    }

    /** README.md must have the line, with its answer behind "//". */
    private static void shown(String line, int got, int want) throws IOException {
        due.is(line, got, want);
        String answer = "// " + want;
        boolean stands = readme().lines().anyMatch(each -> each.startsWith(line) && each.contains(answer));
        due.is(line + " stands in README.md", stands ? 1 : 0, 1);
    }

    private static void theLoopStands() throws IOException {
        String source = Files.readString(Path.of("src/test/java/UseTest.java"));
        int from = source.indexOf("int pack(StillHouse house");
        String method = source.substring(from, source.indexOf("return house.pack();", from)).replaceAll("\\s+", " ");
        due.is("the loop of feed stands in README.md", readme().replaceAll("\\s+", " ").contains(method) ? 1 : 0, 1);
    }

    private static String readme() throws IOException {
        return Files.readString(Path.of("README.md"));
    }
}
