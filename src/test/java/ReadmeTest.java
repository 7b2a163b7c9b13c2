import java.io.IOException;
import java.nio.file.Files;
import java.nio.file.Path;
import java.util.ArrayList;
import java.util.List;

/** Plays the game of README.md: each of its rows must be made here, and answer what is told behind it. */
public final class ReadmeTest {
    private static final List<String> rows = new ArrayList<>();
    private static int next = 0;
    private static int wrong = 0;

    private static void readRows() throws IOException {
        boolean inside = false;
        for (String line : Files.readAllLines(Path.of("README.md"))) {
            if (line.startsWith("```")) {
                inside = line.equals("```java");
            } else if (inside) {
                rows.add(line);
            }
        }
    }

    private static void row(String call, int answer) {
        String row = next < rows.size() ? rows.get(next) : "nothing";
        next++;
        if (!row.matches("\\Qgame." + call + ";\\E +// \\Q" + answer + "\\E: .*")) {
            wrong++;
            System.out.println(call + " answers " + answer + ", but README.md says: " + row);
        }
    }

    public static void main(String[] args) throws IOException {
        readRows();
        StockLines game = new StockLines();
        next++;
        row("start(0, 3, 5)", game.start(0, 3, 5));
        row("buy(0)", game.buy(0));
        row("pass()", game.pass());
        row("pass()", game.pass());
        row("pass()", game.pass());
        row("value(4)", game.value(4));
        row("bestTrack(0)", game.bestTrack(0));
        row("incomeWith(0, 3, 7)", game.incomeWith(0, 3, 7));
        row("extend()", game.extend());
        row("operate(3, 7, true)", game.operate(3, 7, true));
        row("company(0, 3)", game.company(0, 3));
        row("player(0, 0)", game.player(0, 0));
        row("value(3)", game.value(3));
        row("undo()", game.undo());
        row("append('k')", game.append('k'));
        row("append(';')", game.append(';'));
        row("play()", game.play());
        row("company(0, 2)", game.company(0, 2));
        if (next != rows.size()) {
            wrong++;
            System.out.println("README.md has " + rows.size() + " rows, and " + next + " are made here");
        }
        System.out.println(wrong == 0 ? next + " rows are as README.md says" : wrong + " rows are not");
        if (wrong != 0) {
            System.exit(1);
        }
    }
}
