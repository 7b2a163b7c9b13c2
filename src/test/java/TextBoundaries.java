import java.io.IOException;
import java.util.ArrayDeque;
import java.util.function.Consumer;
import java.util.function.Supplier;
import java.util.regex.Pattern;

/** The boundaries of the text, of the moves that are read from it, of the saved states, and of the digest. */
public final class TextBoundaries extends Check {
    private static final String TERMS = "Terms";
    private static final String PLAY = "Promise 24: play";

    public static void main(String[] args) throws IOException {
        runSentences(TextBoundaries.class);
    }

    // ---- the text

    private static StockLines full() {
        StockLines x = new StockLines();
        write(x, "p;".repeat(45));
        return x;
    }

    @Says(in = TERMS, value = "The text has at most 90 bytes.")
    static void aTextOf90BytesIsFull() {
        StockLines x = new StockLines();
        for (int length = 1; length <= 90; length++) {
            same("length", x.append(length % 2 == 1 ? 'p' : ';'), length);
        }
        alike("a 91st byte", thrown(x, y -> y.append('p')), STATE);
        same("it is played", x.play(), 45);
        same("it is emptied", x.clearText(), 90);
        same("and takes bytes again", x.append('p'), 1);
    }

    @Says(in = "Promise 22: append", value = "- `value`: the byte, 0 to 127")
    static void bytesAre0To127() {
        StockLines x = new StockLines();
        same("least byte", x.append(0), 1);
        same("greatest byte", x.append(127), 2);
        same("both are no moves", x.play(), -10);
        StockLines all = new StockLines();
        for (int value = 0; value < 128; value++) {
            if (value == 90) {
                same("length", all.clearText(), 90);
            }
            same("length with " + value, all.append(value), value % 90 + 1);
        }
    }

    @Says(in = "Promise 23: clearText", value = "Returns the length that it had.")
    static void theEmptyTextIsEmptied() {
        StockLines x = new StockLines();
        same("empty", x.clearText(), 0);
        same("still", x.clearText(), 0);
        x.append('q');
        same("one", x.clearText(), 1);
        same("no moves any more", x.play(), 0);
        same("full", full().clearText(), 90);
    }

    // ---- syntax

    private static final Pattern MOVES = Pattern.compile("(b[0-3];|x[0-3][1-9];|p;|[ok]([0-7][0-7])?;)*");

    /** The document's words in other clothes: a text of moves, where no track has twice the same town. */
    private static boolean isRight(String text) {
        if (!MOVES.matcher(text).matches()) {
            return false;
        }
        for (int i = 0; i + 2 < text.length(); i++) {
            boolean track = "ok".indexOf(text.charAt(i)) >= 0 && text.charAt(i + 1) != ';';
            if (track && text.charAt(i + 1) == text.charAt(i + 2)) {
                return false;
            }
        }
        return true;
    }

    private static final String[] ENDINGS = {"", ";", "0;", "1;", "01;", "10;", "1", "0"};

    private static boolean canStand(String beginning) {
        for (String ending : ENDINGS) {
            if (isRight(beginning + ending)) {
                return true;
            }
        }
        return false;
    }

    private static void playAnswers(String text) {
        int error = 0;
        while (error < text.length() && canStand(text.substring(0, error + 1))) {
            error++;
        }
        StockLines x = new StockLines();
        int answer = played(x, text);
        if (isRight(text)) {
            same("'" + text + "' has no error: 1", answer >= 0 ? 1 : 0, 1);
            same("one saved state", savedStates(x), 1);
        } else {
            same("'" + text + "'", answer, -10 - error);
            same("no saved state", savedStates(x), 0);
        }
    }

    @Says(in = TERMS, value = "The syntax error position is the index of the first byte that cannot stand where it"
            + " stands")
    static void everyByteInEveryPlace() {
        String[] beginnings = {"", "p", "b", "b3", "x", "x3", "x31", "x39", "o", "k", "o0", "k7", "o07", "k70", "p;",
            "b0;", "x01;", "o;", "k12;"};
        for (String beginning : beginnings) {
            for (int value = 0; value < 128; value++) {
                playAnswers(beginning + (char) value);
                playAnswers(beginning + (char) value + ";");
            }
        }
    }

    @Says(in = TERMS, value = "and a company digit 0 to 3, to buy a share")
    static void companyDigitsOfB() {
        errorAt("b/;", 1);
        errorAt("b0;", NONE);
        errorAt("b3;", NONE);
        errorAt("b4;", 1);
    }

    @Says(in = TERMS, value = "\"x\", a company digit, and a digit 1 to 9, to sell so many shares")
    static void digitsOfX() {
        errorAt("x/1;", 1);
        errorAt("x01;", NONE);
        errorAt("x39;", NONE);
        errorAt("x41;", 1);
        errorAt("x00;", 2);
        errorAt("x0:;", 2);
        errorAt("x010;", 3);
    }

    @Says(in = TERMS, value = "perhaps followed by two different town digits 0 to 7, a track")
    static void digitsOfATrack() {
        for (String sign : new String[] {"o", "k"}) {
            errorAt(sign + ";", NONE);
            errorAt(sign + "01;", NONE);
            errorAt(sign + "76;", NONE);
            errorAt(sign + "/1;", 1);
            errorAt(sign + "81;", 1);
            errorAt(sign + "1/;", 2);
            errorAt(sign + "18;", 2);
            errorAt(sign + "0;", 2);
            errorAt(sign + "012;", 3);
            for (int town = 0; town < 8; town++) {
                errorAt(sign + town + town + ";", 2);
            }
        }
    }

    @Says(in = TERMS, value = "or the length of the text if the text ends too early")
    static void aTextThatEndsTooEarly() {
        String[] texts = {"p", "b", "b0", "x", "x0", "x01", "o", "k", "o0", "k07"};
        for (String text : texts) {
            errorAt(text, text.length());
            errorAt("p;" + text, 2 + text.length());
        }
        errorAt("p;".repeat(44) + "b0", 90);
        errorAt("p;".repeat(43) + "o123", 89);
        errorAt("p;".repeat(44) + "o;", NONE);
    }

    @Says(in = TERMS, value = "each terminated by a semicolon")
    static void aSemicolonBehindEachMoveAlone() {
        errorAt(";", 0);
        errorAt("p;;", 2);
        errorAt(";p;", 0);
        errorAt("pp;", 1);
        errorAt("b0p;", 2);
    }

    @Says(in = TERMS, value = "There are no spaces; there may be no moves.")
    static void noSpacesAndNoMoves() {
        errorAt(" ", 0);
        errorAt(" p;", 0);
        errorAt("p ;", 1);
        errorAt("p; ", 2);
        errorAt("b 0;", 1);
        StockLines x = new StockLines();
        same("no moves", x.play(), 0);
        same("one saved state", savedStates(x), 1);
    }

    /** The text has an error there, or none. */
    private static void errorAt(String text, int position) {
        StockLines x = new StockLines();
        write(x, text);
        if (position == NONE) {
            same("'" + text + "' has no error: 1", x.play() >= 0 ? 1 : 0, 1);
        } else {
            same("'" + text + "'", x.play(), -10 - position);
        }
    }

    // ---- play

    @Says(in = PLAY, value = "-10 minus the syntax error position if there is a syntax error (then nothing changes)")
    static void withAnErrorNothingChanges() {
        String[] texts = {"q", "p;q", "p;p;p;p", "b0;p;;", "x01;b"};
        for (String text : texts) {
            refused("'" + text + "'", null, () -> withText(text), x -> same("an error", x.play() <= -10 ? 1 : 0, 1));
        }
        same("at 0", withText("q").play(), -10);
        same("behind moves", withText("b0;p;;").play(), -15);
    }

    /** 2 players; player 1 is next; company 0 is open. */
    private static StockLines withText(String text) {
        StockLines x = game(2);
        x.start(0, 0, 8);
        write(x, text);
        return x;
    }

    @Says(in = PLAY, value = "Makes the moves of the text one after the other, up to the first one that is not possible.")
    static void movesBehindAnImpossibleOneAreNotMade() {
        String[] impossible = {"b1;", "x01;", "o;", "k;", "o01;", "x19;"};
        for (String move : impossible) {
            StockLines first = withText(move + "p;");
            same("none before " + move, first.play(), 0);
            same("turn", first.value(1), 1);
            StockLines third = withText("b0;p;" + move.replace("x01", "x02") + "p;");
            same("two before " + move, third.play(), 2);
            same("turn", third.value(1), 1);
            same("passed", third.value(2), 1);
            same("share", third.player(1, 1), 1);
        }
        String[] inTheOperatingPhase = {"p;", "b0;", "x01;", "o12;"};
        for (String move : inTheOperatingPhase) {
            StockLines x = withText("p;p;" + move + "o;");
            same("two before " + move, x.play(), 2);
            same("operating", x.value(3), 1);
        }
    }

    @Says(in = PLAY, value = "up to the first one that is not possible")
    static void movesAtTheirBoundaries() {
        same("300 of cash for three shares at 100", withText("p;b0;p;b0;p;b0;p;b0;p;b0;").play(), 7);
        same("a seventh share", sixShares("b0;"), 0);
        for (int shares = 7; shares <= 9; shares++) {
            same("too many", sixShares("x0" + shares + ";"), 0);
        }
        same("nine of ten, and the last one", played(tenShares(), "x09;x01;x01;"), 2);
        same("all", sixShares("x06;"), 1);
        same("one too many", sixShares("x03;x04;"), 1);
        same("all in two", sixShares("x03;x03;"), 2);
        same("cash of 19", played(poorsTurn(2, 19), "o07;"), 0);
        same("cash of 20", played(poorsTurn(2, 20), "o07;"), 1);
        same("cash of 39", played(poorsTurn(2, 39), "k01;"), 0);
        same("cash of 40", played(poorsTurn(2, 40), "k10;"), 1);
    }

    /** Player 0 is next and has six shares of company 0; the bank has four. */
    private static int sixShares(String text) {
        StockLines x = game(2);
        x.start(0, 0, 2);
        for (int held = 3; held <= 6; held++) {
            x.pass();
            x.buy(0);
        }
        x.pass();
        return played(x, text);
    }

    @Says(in = TERMS, value = "\"b\" and a company digit 0 to 3, to buy a share; \"x\", a company digit, and a digit 1 to"
            + " 9, to sell so many shares; \"p\", to pass; \"o\" or \"k\", the next company operates and pays, or keeps the"
            + " income, perhaps followed by two different town digits 0 to 7, a track.")
    static void movesChangeWhatTheCallsChange() {
        String moves = "b0;p;x01;b0;p;p;o03;p;p;k30;p;p;o;p;p;k;";
        StockLines moved = withText(moves);
        moved.play();
        StockLines called = withText(moves);
        called.buy(0);
        called.pass();
        called.sell(0, 1);
        called.buy(0);
        passes(called, 2);
        called.operate(0, 3, true);
        passes(called, 2);
        called.operate(3, 0, false);
        passes(called, 2);
        called.operate(NONE, NONE, true);
        passes(called, 2);
        called.operate(NONE, NONE, false);
        for (StockLines x : new StockLines[] {moved, called}) {
            for (int i = 0; i < 4; i++) {
                x.setTown(5, 5);
            }
        }
        same("digest", moved.digest(), called.digest());
        alike("the game goes on", wayOn(moved), wayOn(called));
    }

    @Says(in = PLAY, value = "The text stays as it is.")
    static void theTextStays() {
        StockLines x = withText("p;p;o;p;p;o;");
        same("played", x.play(), 6);
        same("again", x.play(), 6);
        same("length", x.clearText(), 12);
        StockLines wrong = withText("p;q");
        same("with an error", wrong.play(), -12);
        same("again", wrong.play(), -12);
        same("length", wrong.clearText(), 3);
    }

    @Says(in = PLAY, value = "Undoable (one saved state, also if no move is made), if there is no syntax error.")
    static void playSavesOneState() {
        String[] texts = {"", "p;", "b1;", "p;p;o;p;p;"};
        for (String text : texts) {
            undoable("'" + text + "'", () -> withText(text), StockLines::play);
        }
    }

    @Says(in = PLAY, value = "Returns the number of moves that are made")
    static void fortyFiveMovesFillTheText() {
        StockLines x = full();
        same("moves", x.play(), 45);
        same("phases", x.value(5), 15);
        same("one saved state", savedStates(x), 1);
    }

    // ---- undo

    /** The scene has saved fewer than four states; the call saves one more, which brings all back. */
    private static void undoable(String what, Supplier<StockLines> scene, Consumer<StockLines> call) {
        int before = savedStates(scene.get());
        same("room for a state: 1", before < 4 ? 1 : 0, 1);
        StockLines x = scene.get();
        long digest = x.digest();
        call.accept(x);
        same("states that remain behind " + what, x.undo(), before);
        same("digest behind " + what, x.digest(), digest);
        alike("the game behind " + what, wayOn(x), wayOn(scene.get()));
    }

    private static StockLines started(String moves) {
        StockLines x = new StockLines();
        x.start(0, 0, 8);
        x.start(1, 0, 2);
        played(x, moves);
        return x;
    }

    @Says(in = TERMS, value = "Each successful call of a method whose description says \"undoable\" saves the state from"
            + " before the call")
    static void tenMethodsAreUndoable() {
        undoable("begin", () -> started("p;p;"), x -> x.begin(4));
        undoable("setTown", () -> started("p;p;"), x -> x.setTown(0, 90));
        undoable("start", () -> started("p;p;"), x -> x.start(2, 7, 2));
        undoable("buy", () -> started("p;p;"), x -> x.buy(0));
        undoable("sell", () -> started("p;p;"), x -> x.sell(1, 2));
        undoable("merge", () -> started("p;b1;p;p;b1;p;p;b1;p;p;"), x -> x.merge(0, 1));
        undoable("pass", () -> started("p;p;"), StockLines::pass);
        undoable("extend", () -> started("p;p;p;"), StockLines::extend);
        undoable("extend of the second company", () -> started("p;p;p;o02;"), StockLines::extend);
        undoable("operate", () -> started("p;p;p;"), x -> x.operate(0, 1, true));
        undoable("operate of the second company", () -> started("p;p;p;o02;"), x -> x.operate(NONE, NONE, false));
        undoable("play", () -> started("p;p;p;o;p;"), StockLines::play);
    }

    @Says(in = TERMS, value = "The saved state contains everything")
    static void undoRestoresAClosedAndARestartedCompany() {
        StockLines x = poorSold(2, 9, 2);
        x.operate(NONE, NONE, true);
        same("closed", x.value(9), 1);
        x.undo();
        same("not closed", x.value(9), 0);
        same("its cash", x.company(0, 2), 9);
        x.operate(NONE, NONE, true);
        x.start(0, 7, 8);
        int[] due = {1, 7, 500, 100, 2, 1, 8, 0, 0};
        for (int what = 0; what < due.length; what++) {
            same("started anew, what " + what, x.company(0, what), due[what]);
        }
        x.undo();
        x.undo();
        int[] before = {1, 0, 9, 20, 2, NONE, 10, 0, 9};
        for (int what = 0; what < before.length; what++) {
            same("as before, what " + what, x.company(0, what), before[what]);
        }
    }

    @Says(in = TERMS, value = "even if the call changes nothing")
    static void aCallWithoutAChangeSavesAState() {
        undoable("begin", StockLines::new, x -> x.begin(3));
        undoable("setTown", StockLines::new, x -> x.setTown(7, 40));
        undoable("play", StockLines::new, StockLines::play);
    }

    @Says(in = TERMS, value = "at most 4 states are saved, and the oldest is dropped first")
    static void theOldestOfFiveStatesIsDropped() {
        for (int calls = 0; calls <= 9; calls++) {
            StockLines x = new StockLines();
            x.setTown(0, 0);
            x.undo();
            for (int i = 1; i <= calls; i++) {
                x.setTown(0, 10 + i);
            }
            int saved = Math.min(4, calls);
            for (int left = saved - 1; left >= 0; left--) {
                same("left of " + calls, x.undo(), left);
                same("value", x.town(0), 10 + calls - saved + left);
            }
            alike("no state is left of " + calls, thrown(x, StockLines::undo), STATE);
            same("value", x.town(0), 10 + calls - saved);
        }
    }

    @Says(in = "Promise 25: undo", value = "Restores the most recently saved state and removes it from the saved states.")
    static void statesAreSavedAndRestoredInTurns() {
        String steps = "+++++--+++---++++++----+-++-++-+++++-+-+-----";
        StockLines x = new StockLines();
        ArrayDeque<Integer> saved = new ArrayDeque<>();
        for (int i = 0; i < steps.length(); i++) {
            if (steps.charAt(i) == '+') {
                saved.addLast(x.town(3));
                x.setTown(3, i);
                if (saved.size() > 4) {
                    saved.removeFirst();
                }
            } else if (saved.isEmpty()) {
                alike("undo at " + i, thrown(x, StockLines::undo), STATE);
            } else {
                int due = saved.removeLast();
                same("left at " + i, x.undo(), saved.size());
                same("value at " + i, x.town(3), due);
            }
        }
    }

    @Says(in = TERMS, value = "The saved state contains everything except the text.")
    static void undoLeavesTheTextAlone() {
        StockLines x = new StockLines();
        x.append('p');
        x.setTown(0, 0);
        x.append(';');
        x.undo();
        same("a longer text", x.play(), 1);
        x.clearText();
        x.undo();
        same("an empty text", x.clearText(), 0);
        same("the turn is restored", x.value(1), 0);
    }

    @Says(in = TERMS, value = "The saved state contains everything")
    static void undoRestoresAnotherNumberOfPlayers() {
        StockLines x = started("p;p;p;o02;");
        x.begin(2);
        alike("player 2 of 2", thrown(x, y -> y.player(2, 0)), INDEX);
        x.undo();
        same("player 2 of 3", x.player(2, 0), 500);
        same("operating", x.value(4), 1);
        same("track", x.track(0, 2), 1);
    }

    @Says(in = TERMS, value = "Each successful call of a method whose description says \"undoable\"")
    static void otherCallsSaveNothing() {
        StockLines x = new StockLines();
        x.append('p');
        x.append(';');
        x.clearText();
        x.append('q');
        x.play();
        x.leader();
        x.unsold();
        x.digest();
        x.bestTrack(0);
        x.route(0, 0);
        x.dividend(0);
        x.incomeWith(0, 0, 1);
        same("no saved state", savedStates(x), 0);
    }

    // ---- digest

    @Says(in = "Promise 26: digest", value = "set h = 31 * h + v: the length of the text; value() for 0 to 9; for each"
            + " player the values of player() for what = 0 to 6; for each company the values of company() for what = 0 to"
            + " 8; for each pair of towns a, b with a less than b, by a and then by b, track(); the values of all towns;"
            + " the number of saved states.")
    static void theDigestIsOfAllValues() {
        StockLines empty = new StockLines();
        same("a new object", empty.digest(), hash(empty, 0, 0));
        StockLines text = full();
        same("a full text", text.digest(), hash(text, 90, 0));
        StockLines game = started("p;p;p;o02;");
        same("three states", game.digest(), hash(game, 10, 3));
        game.operate(2, 7, false);
        game.begin(4);
        same("four states, four players", game.digest(), hash(game, 10, 4));
        game.begin(2);
        same("never five, two players", game.digest(), hash(game, 10, 4));
        StockLines closed = poorSold(2, 9, 2);
        closed.operate(NONE, NONE, true);
        same("a closed company", closed.digest(), hash(closed, 0, 4));
    }
}
