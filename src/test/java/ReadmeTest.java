import java.io.IOException;
import java.nio.file.Files;
import java.nio.file.Path;
import java.util.List;

/** The Java of README.md, with the answers that its comments name; each line of it has to stand here, too. */
public final class ReadmeTest {
    private static final Path README = Path.of("README.md");
    private static final Path THIS = Path.of("src/test/java/ReadmeTest.java");
    private static final int NONE = StrawDraws.NONE;

    private final Due due = new Due("readme");

    private ReadmeTest() {
    }

    public static void main(String[] args) throws IOException {
        ReadmeTest test = new ReadmeTest();
        test.example();
        test.linesStandHere();
        Due.end(test.due);
    }

    private void example() {
        StrawDraws draws = new StrawDraws();
        int first = draws.server(0, 4);
        int second = draws.server(1, 2);
        int third = draws.server(2, 3);
        int copies = draws.store(17);
        int server = draws.place(17, 0);
        int moves = draws.down(third, true);
        int from = draws.move(0, 1);
        int to = draws.move(0, 2);
        answers("servers and objects", Due.row(first, second, third, copies, server, moves, from, to),
                Due.row(0, 1, 2, 2, 2, 1, 2, 0));

        int wouldMove = draws.movesIf(first, 0);
        int wouldBeLost = draws.lostWith(first, second);
        int bestWeight = draws.bestWeight(first, 0);
        answers("what if", Due.row(wouldMove, wouldBeLost, bestWeight), Due.row(1, 1, 2));

        draws.put(packed("+5;w1=16"));
        due.is("the length of the pad", draws.count(10), 8);
        draws.put(packed(";u2"));
        due.is("the length of the pad", draws.count(10), 11);
        int fault = draws.fault();
        int orders = draws.carryOut();
        answers("a text", Due.row(fault, orders, draws.count(10)), Due.row(NONE, 3, 0));

        int undos = draws.undo();
        int saved = draws.save(0);
        int dropped = draws.drop(17);
        int restored = draws.restore(0);
        answers("undo and slots", Due.row(undos, saved, dropped, restored), Due.row(5, 1, 0, 1));

        int failed = draws.weigh(7, 1);
        answers("an error", Due.row(failed), Due.row(StrawDraws.NO_SUCH));
    }

    static long packed(String characters) {
        long number = 0;
        for (int i = 0; i < characters.length(); i++) {
            number = number << 8 | characters.charAt(i);
        }
        return number;
    }

    private void answers(String part, int[] got, int[] want) {
        due.is(part + ": answers", got.length, want.length);
        for (int i = 0; i < want.length; i++) {
            due.is(part + ": answer " + i, got[i], want[i]);
        }
    }

    private void linesStandHere() throws IOException {
        List<String> own = Files.readAllLines(THIS).stream().map(String::trim).toList();
        boolean isJava = false;
        int found = 0;
        for (String line : Files.readAllLines(README)) {
            if (line.startsWith("```")) {
                isJava = line.equals("```java");
            } else if (isJava) {
                String code = line.replaceAll("//.*", "").trim();
                due.is("README.md's line " + code, own.contains(code) ? 1 : 0, 1);
                found++;
            }
        }
        due.is("README.md has lines of Java", found > 0 ? 1 : 0, 1);
    }
}
