import java.io.IOException;
import java.util.function.Consumer;
import java.util.function.Supplier;

/** Each exception of each call, the order of several, and that a refused call changes nothing. */
public final class RefusedCalls extends Check {
    private static final String NO_COMPANY = "Throws `IndexOutOfBoundsException` if there is no such company (0 to 3)";
    private static final String FIRST = "If several exceptions apply, the one that is listed first is thrown.";

    private static final int LEAST = Integer.MIN_VALUE;
    private static final int MOST = Integer.MAX_VALUE;
    private static final int[] NO_COMPANIES = {LEAST, -1, 4, MOST};
    private static final int[] NO_TOWNS = {LEAST, -1, 8, MOST};

    public static void main(String[] args) throws IOException {
        runSentences(RefusedCalls.class);
    }

    // ---- games

    /**
     * 2 players, player 0 is next and the president of 0 and 1; company 2 is player 1's; company 3 is not open; the
     * text has moves and states are saved. All but the phase allows player 0 each call of the stock phase.
     */
    private static StockLines stock() {
        StockLines x = game(2);
        x.start(0, 0, 2);
        x.pass();
        x.start(1, 7, 3);
        round(x, 0, 1, false);
        x.pass();
        x.pass();
        endPhase(x, true);
        x.start(2, 5, 2);
        write(x, "b0;p;");
        same("turn", x.value(1), 0);
        same("president of both", x.player(0, 6), 3);
        return x;
    }

    private static StockLines operates() {
        StockLines x = stock();
        passes(x, 2);
        same("turn", x.value(1), 0);
        same("operating", x.value(3), 1);
        return x;
    }

    private static void inBoth(String what, Class<?> kind, Consumer<StockLines> call) {
        refused(what + " in the stock phase", kind, () -> stock(), call);
        refused(what + " in the operating phase", kind, () -> operates(), call);
    }

    // ---- begin, setTown

    @Says(in = "Promise 2: begin", value = "Throws `IllegalArgumentException` if players is out of range")
    static void beginIsRefused() {
        for (int players : new int[] {LEAST, -1, 0, 1, 5, MOST}) {
            inBoth("begin(" + players + ")", ARGUMENT, x -> x.begin(players));
        }
    }

    @Says(in = "Promise 3: setTown", value = "Throws `IndexOutOfBoundsException` if there is no such town")
    static void setTownWithoutATownIsRefused() {
        for (int town : NO_TOWNS) {
            inBoth("town " + town, INDEX, x -> x.setTown(town, 50));
            inBoth("town " + town + " and a wrong value", INDEX, x -> x.setTown(town, 91));
        }
    }

    @Says(in = "Promise 3: setTown", value = "Throws `IllegalArgumentException` if value is out of range")
    static void setTownWithAWrongValueIsRefused() {
        for (int value : new int[] {LEAST, -1, 91, MOST}) {
            inBoth("value " + value, ARGUMENT, x -> x.setTown(0, value));
            inBoth("value " + value, ARGUMENT, x -> x.setTown(7, value));
        }
    }

    // ---- start

    @Says(in = "Promise 4: start", value = "Throws `IndexOutOfBoundsException` if there is no such company or town")
    static void startWithoutACompanyOrATownIsRefused() {
        for (int company : NO_COMPANIES) {
            inBoth("company " + company, INDEX, x -> x.start(company, 0, 2));
            inBoth("company " + company + " and a wrong step", INDEX, x -> x.start(company, 0, 9));
        }
        for (int town : NO_TOWNS) {
            inBoth("home " + town, INDEX, x -> x.start(3, town, 2));
            inBoth("home " + town + " and a wrong step", INDEX, x -> x.start(3, town, 1));
            inBoth("home " + town + " of an open company", INDEX, x -> x.start(0, town, 2));
        }
    }

    @Says(in = "Promise 4: start", value = "Throws `IllegalArgumentException` if step is out of range")
    static void startWithAWrongStepIsRefused() {
        for (int step : new int[] {LEAST, -1, 0, 1, 9, 11, MOST}) {
            inBoth("step " + step, ARGUMENT, x -> x.start(3, 0, step));
            inBoth("step " + step + " of an open company", ARGUMENT, x -> x.start(0, 0, step));
        }
    }

    @Says(in = "Promise 4: start", value = "Throws `IllegalStateException` if it is not the stock phase, the company is"
            + " open, or the player has not enough cash")
    static void startIsRefused() {
        accepted("start", () -> stock(), x -> x.start(3, 0, 2));
        refused("start in the operating phase", STATE, () -> operates(), x -> x.start(3, 0, 2));
        for (int company = 0; company < 3; company++) {
            int open = company;
            refused("an open company", STATE, () -> stock(), x -> x.start(open, 0, 2));
        }
        accepted("cash of 120 for 120", () -> spent(), x -> x.start(3, 0, 4));
        refused("cash of 120 for 140", STATE, () -> spent(), x -> x.start(3, 0, 5));
    }

    /** 2 players, player 0 is next and has 120 of cash; company 0 has the price 100. */
    private static StockLines spent() {
        StockLines x = game(2);
        x.start(0, 0, 8);
        x.start(1, 0, 8);
        x.start(2, 0, 7);
        x.pass();
        same("cash", x.player(0, 0), 120);
        return x;
    }

    // ---- buy

    @Says(in = "Promise 5: buy", value = NO_COMPANY)
    static void buyWithoutACompanyIsRefused() {
        for (int company : NO_COMPANIES) {
            inBoth("company " + company, INDEX, x -> x.buy(company));
        }
    }

    @Says(in = "Promise 5: buy", value = "Throws `IllegalStateException` if it is not the stock phase, the company is not"
            + " open, the bank has no share of it, the player holds 6, or has not enough cash")
    static void buyIsRefused() {
        accepted("buy", () -> stock(), x -> x.buy(0));
        refused("buy in the operating phase", STATE, () -> operates(), x -> x.buy(0));
        refused("not open", STATE, () -> stock(), x -> x.buy(3));
        accepted("the last share", () -> shares(5, 4), x -> x.buy(0));
        refused("no share", STATE, () -> shares(5, 5), x -> x.buy(0));
        accepted("a sixth share", () -> shares(5, 2), x -> x.buy(0));
        refused("a seventh share", STATE, () -> shares(6, 2), x -> x.buy(0));
        accepted("cash of 120 for 100", () -> spent(), x -> x.buy(0));
        refused("cash of 20 for 100", STATE, () -> spentMore(), x -> x.buy(0));
    }

    private static StockLines spentMore() {
        StockLines x = spent();
        x.buy(0);
        x.pass();
        return x;
    }

    /** 2 players, player 0 is next; both have so many shares of company 0, whose price is 40. */
    private static StockLines shares(int first, int second) {
        StockLines x = game(2);
        x.start(0, 0, 2);
        for (int turn = 0; turn < 10 && (x.player(0, 1) < first || x.player(1, 1) < second); turn++) {
            boolean wants = x.value(1) == 0 ? x.player(0, 1) < first : x.player(1, 1) < second;
            if (wants) {
                x.buy(0);
            } else {
                x.pass();
            }
        }
        if (x.value(1) == 1) {
            x.pass();
        }
        same("shares", x.player(0, 1) * 10 + x.player(1, 1), first * 10 + second);
        return x;
    }

    // ---- sell

    @Says(in = "Promise 6: sell", value = NO_COMPANY)
    static void sellWithoutACompanyIsRefused() {
        for (int company : NO_COMPANIES) {
            inBoth("company " + company, INDEX, x -> x.sell(company, 1));
            inBoth("company " + company + " and no share", INDEX, x -> x.sell(company, 0));
        }
    }

    @Says(in = "Promise 6: sell", value = "Throws `IllegalArgumentException` if shares is out of range")
    static void sellOfAWrongNumberIsRefused() {
        for (int shares : new int[] {LEAST, -1, 0, 11, MOST}) {
            inBoth("shares " + shares, ARGUMENT, x -> x.sell(0, shares));
            inBoth("shares " + shares + " of one that is not open", ARGUMENT, x -> x.sell(3, shares));
        }
    }

    @Says(in = "Promise 6: sell", value = "Throws `IllegalStateException` if it is not the stock phase, the company is"
            + " not open, or the player holds fewer shares of it")
    static void sellIsRefused() {
        accepted("sell", () -> stock(), x -> x.sell(0, 2));
        refused("sell in the operating phase", STATE, () -> operates(), x -> x.sell(0, 2));
        refused("not open", STATE, () -> stock(), x -> x.sell(3, 1));
        refused("one too many", STATE, () -> stock(), x -> x.sell(0, 3));
        refused("ten of two", STATE, () -> stock(), x -> x.sell(0, 10));
        refused("one of none", STATE, () -> stock(), x -> x.sell(2, 1));
    }

    // ---- merge

    @Says(in = "Promise 7: merge", value = "Throws `IndexOutOfBoundsException` if there is no such company (one of both)")
    static void mergeWithoutACompanyIsRefused() {
        for (int company : NO_COMPANIES) {
            inBoth("into " + company, INDEX, x -> x.merge(company, 0));
            inBoth("from " + company, INDEX, x -> x.merge(0, company));
            inBoth("both " + company, INDEX, x -> x.merge(company, company));
        }
    }

    @Says(in = "Promise 7: merge", value = "Throws `IllegalArgumentException` if both are the same")
    static void mergeWithItselfIsRefused() {
        for (int company = 0; company < 4; company++) {
            int same = company;
            inBoth("both " + company, ARGUMENT, x -> x.merge(same, same));
        }
    }

    @Says(in = "Promise 7: merge", value = "Throws `IllegalStateException` if it is not the stock phase, one of both is not"
            + " open, the player is not the president of both, or the bank has not enough shares")
    static void mergeIsRefused() {
        accepted("merge", () -> stock(), x -> x.merge(0, 1));
        accepted("the other way", () -> stock(), x -> x.merge(1, 0));
        refused("merge in the operating phase", STATE, () -> operates(), x -> x.merge(0, 1));
        refused("into one that is not open", STATE, () -> stock(), x -> x.merge(3, 0));
        refused("from one that is not open", STATE, () -> stock(), x -> x.merge(0, 3));
        refused("into another player's", STATE, () -> stock(), x -> x.merge(2, 0));
        refused("from another player's", STATE, () -> stock(), x -> x.merge(0, 2));
        refused("without shares of the bank", STATE, () -> without(), x -> x.merge(0, 1));
        accepted("the other way", () -> without(), x -> x.merge(1, 0));
    }

    /** Player 0 is next, and the president of 0, of which the bank has no share, and of 1. */
    private static StockLines without() {
        StockLines x = shares(5, 5);
        x.start(1, 0, 2);
        x.pass();
        return x;
    }

    // ---- pass, extend, operate

    @Says(in = "Promise 8: pass", value = "Throws `IllegalStateException` if it is not the stock phase")
    static void passIsRefused() {
        accepted("pass", () -> stock(), StockLines::pass);
        refused("pass in the operating phase", STATE, () -> operates(), StockLines::pass);
    }

    @Says(in = "Promise 9: extend", value = "Throws `IllegalStateException` if it is not the operating phase, it has 5"
            + " stops, it has got one in this turn, or it has less than 60 of cash")
    static void extendIsRefused() {
        accepted("extend", () -> operates(), StockLines::extend);
        refused("extend in the stock phase", STATE, () -> stock(), StockLines::extend);
        refused("a new object", STATE, StockLines::new, StockLines::extend);
        refused("five stops", STATE, () -> poorsTurn(5, 90), StockLines::extend);
        refused("a second one", STATE, () -> extended(), StockLines::extend);
        refused("cash of 59", STATE, () -> poorsTurn(4, 59), StockLines::extend);
        accepted("cash of 60", () -> poorsTurn(4, 60), StockLines::extend);
    }

    private static StockLines extended() {
        StockLines x = operates();
        x.extend();
        return x;
    }

    @Says(in = "Promise 10: operate", value = "Throws `IndexOutOfBoundsException` if one or other is no town, but they are"
            + " not both NONE")
    static void operateWithoutATownIsRefused() {
        for (int town : NO_TOWNS) {
            for (int company = 0; company < 8; company += 7) {
                int right = company;
                inBoth("one " + town, INDEX, x -> x.operate(town, right, true));
                inBoth("other " + town, INDEX, x -> x.operate(right, town, false));
            }
            if (town != NONE) {
                inBoth("both " + town, INDEX, x -> x.operate(town, town, true));
                inBoth("one " + town + ", other NONE", INDEX, x -> x.operate(town, NONE, true));
                inBoth("one NONE, other " + town, INDEX, x -> x.operate(NONE, town, true));
            }
        }
        inBoth("both -2", INDEX, x -> x.operate(-2, -2, true));
        accepted("both NONE", () -> operates(), x -> x.operate(NONE, NONE, true));
    }

    @Says(in = "Promise 10: operate", value = "Throws `IllegalArgumentException` if both are the same town")
    static void operateWithTheSameTownIsRefused() {
        for (int town = 0; town < 8; town++) {
            int same = town;
            inBoth("both " + town, ARGUMENT, x -> x.operate(same, same, true));
        }
    }

    @Says(in = "Promise 10: operate", value = "Throws `IllegalStateException` if it is not the operating phase, or the"
            + " track cannot be laid")
    static void operateIsRefused() {
        same("company 0 is next", operates().value(4), 0);
        refused("without a track in the stock phase", STATE, () -> stock(), x -> x.operate(NONE, NONE, true));
        refused("with one in the stock phase", STATE, () -> stock(), x -> x.operate(7, 0, true));
        accepted("a track from the home", () -> operates(), x -> x.operate(7, 0, true));
        refused("a track elsewhere", STATE, () -> operates(), x -> x.operate(2, 3, true));
        refused("a track from another company's home", STATE, () -> operates(), x -> x.operate(7, 6, true));
        refused("a track without the cash", STATE, () -> poorsTurn(2, 19), x -> x.operate(0, 7, true));
        refused("a better one without the cash", STATE, () -> poorsTurn(2, 39), x -> x.operate(1, 0, true));
        refused("a track of level 2", STATE, () -> best(), x -> x.operate(0, 1, true));
    }

    private static StockLines best() {
        StockLines x = game(2);
        x.start(0, 0, 8);
        round(x, 0, 1, false);
        round(x, 1, 0, false);
        passes(x, 2);
        return x;
    }

    // ---- values and what if

    @Says(in = "Promise 11: player", value = "Throws `IllegalArgumentException` if what is out of range")
    static void playerIsRefused() {
        for (int player : new int[] {LEAST, -1, 2, 3, 4, MOST}) {
            inBoth("player " + player, INDEX, x -> x.player(player, 0));
            inBoth("player " + player + " and a wrong what", INDEX, x -> x.player(player, 7));
        }
        for (int what : new int[] {LEAST, -1, 7, MOST}) {
            inBoth("what " + what, ARGUMENT, x -> x.player(0, what));
            inBoth("what " + what, ARGUMENT, x -> x.player(1, what));
        }
    }

    @Says(in = "Promise 12: company", value = "Throws `IllegalArgumentException` if what is out of range")
    static void companyIsRefused() {
        for (int company : NO_COMPANIES) {
            inBoth("company " + company, INDEX, x -> x.company(company, 0));
            inBoth("company " + company + " and a wrong what", INDEX, x -> x.company(company, 9));
        }
        for (int what : new int[] {LEAST, -1, 9, MOST}) {
            inBoth("what " + what, ARGUMENT, x -> x.company(0, what));
            inBoth("what " + what + " of one that is not open", ARGUMENT, x -> x.company(3, what));
        }
    }

    @Says(in = "Promise 13: track", value = "Throws `IndexOutOfBoundsException` if there is no such town (one of both)")
    static void trackIsRefused() {
        for (int town : NO_TOWNS) {
            inBoth("one " + town, INDEX, x -> x.track(town, 0));
            inBoth("other " + town, INDEX, x -> x.track(7, town));
            inBoth("both " + town, INDEX, x -> x.track(town, town));
        }
    }

    @Says(in = "Promise 14: value", value = "Throws `IllegalArgumentException` if what is out of range")
    static void valueIsRefused() {
        for (int what : new int[] {LEAST, -1, 10, MOST}) {
            inBoth("what " + what, ARGUMENT, x -> x.value(what));
        }
        accepted("what 9", () -> stock(), x -> x.value(9));
    }

    @Says(in = "Promise 15: town", value = "Throws `IndexOutOfBoundsException` if there is no such town")
    static void townIsRefused() {
        for (int town : NO_TOWNS) {
            inBoth("town " + town, INDEX, x -> x.town(town));
        }
    }

    @Says(in = "Promise 16: route", value = "Throws `IndexOutOfBoundsException` if there is no such company, or index is"
            + " negative")
    static void routeIsRefused() {
        for (int company : NO_COMPANIES) {
            inBoth("company " + company, INDEX, x -> x.route(company, 0));
        }
        for (int index : new int[] {LEAST, -1}) {
            inBoth("index " + index, INDEX, x -> x.route(0, index));
            inBoth("index " + index + " of one that is not open", INDEX, x -> x.route(3, index));
        }
        accepted("a great index", () -> stock(), x -> x.route(0, MOST));
    }

    @Says(in = "Promise 17: incomeWith", value = "Throws `IndexOutOfBoundsException` if there is no such company or town")
    static void incomeWithIsRefused() {
        for (int company : NO_COMPANIES) {
            inBoth("company " + company, INDEX, x -> x.incomeWith(company, 0, 1));
            inBoth("company " + company + " and the same town", INDEX, x -> x.incomeWith(company, 0, 0));
        }
        for (int town : NO_TOWNS) {
            inBoth("one " + town, INDEX, x -> x.incomeWith(0, town, 0));
            inBoth("other " + town, INDEX, x -> x.incomeWith(0, 7, town));
            inBoth("both " + town, INDEX, x -> x.incomeWith(0, town, town));
            inBoth("one " + town + " for one that is not open", INDEX, x -> x.incomeWith(3, town, 0));
        }
    }

    @Says(in = "Promise 17: incomeWith", value = "Throws `IllegalArgumentException` if both towns are the same")
    static void incomeWithTheSameTownIsRefused() {
        for (int town = 0; town < 8; town++) {
            int same = town;
            inBoth("both " + town, ARGUMENT, x -> x.incomeWith(0, same, same));
            inBoth("both " + town + " for one that is not open", ARGUMENT, x -> x.incomeWith(3, same, same));
        }
    }

    @Says(in = "Promise 18: bestTrack", value = NO_COMPANY)
    static void bestTrackIsRefused() {
        for (int company : NO_COMPANIES) {
            inBoth("company " + company, INDEX, x -> x.bestTrack(company));
        }
        accepted("not open", () -> stock(), x -> x.bestTrack(3));
    }

    @Says(in = "Promise 19: dividend", value = NO_COMPANY)
    static void dividendIsRefused() {
        for (int company : NO_COMPANIES) {
            inBoth("company " + company, INDEX, x -> x.dividend(company));
        }
        accepted("not open", () -> stock(), x -> x.dividend(3));
    }

    // ---- text and undo

    private static StockLines full() {
        StockLines x = stock();
        write(x, "p;".repeat(45));
        return x;
    }

    @Says(in = "Promise 22: append", value = "Throws `IllegalArgumentException` if value is out of range")
    static void appendOfAWrongValueIsRefused() {
        for (int value : new int[] {LEAST, -1, 128, 255, 256 + 'p', MOST}) {
            inBoth("value " + value, ARGUMENT, x -> x.append(value));
            refused("value " + value + " and a full text", ARGUMENT, () -> full(), x -> x.append(value));
        }
    }

    @Says(in = "Promise 22: append", value = "Throws `IllegalStateException` if the text has 90 bytes")
    static void appendToAFullTextIsRefused() {
        for (int value : new int[] {0, ';', 127}) {
            refused("value " + value, STATE, () -> full(), x -> x.append(value));
        }
    }

    @Says(in = "Promise 25: undo", value = "Throws `IllegalStateException` if there is no saved state")
    static void undoIsRefused() {
        refused("a new object", STATE, StockLines::new, StockLines::undo);
        refused("behind the last one", STATE, () -> undone(), StockLines::undo);
        accepted("one state", () -> game(2), StockLines::undo);
    }

    private static StockLines undone() {
        StockLines x = stock();
        same("states", savedStates(x), 4);
        return x;
    }

    // ---- the order

    @Says(in = "Terms", value = FIRST)
    static void theIndexIsAskedFirstThenTheArgument() {
        Supplier<StockLines> scene = () -> operates();
        refused("setTown", INDEX, scene, x -> x.setTown(8, 91));
        refused("start", INDEX, scene, x -> x.start(4, 0, 9));
        refused("start", INDEX, scene, x -> x.start(0, 8, 9));
        refused("start", ARGUMENT, scene, x -> x.start(0, 0, 9));
        refused("buy", INDEX, scene, x -> x.buy(4));
        refused("sell", INDEX, scene, x -> x.sell(4, 11));
        refused("sell", ARGUMENT, scene, x -> x.sell(3, 11));
        refused("merge", INDEX, scene, x -> x.merge(4, 4));
        refused("merge", ARGUMENT, scene, x -> x.merge(3, 3));
        refused("operate", INDEX, () -> stock(), x -> x.operate(8, 8, true));
        refused("operate", ARGUMENT, () -> stock(), x -> x.operate(7, 7, true));
        refused("player", INDEX, scene, x -> x.player(4, 7));
        refused("company", INDEX, scene, x -> x.company(4, 9));
        refused("incomeWith", INDEX, scene, x -> x.incomeWith(4, 0, 0));
        refused("incomeWith", INDEX, scene, x -> x.incomeWith(0, 8, 8));
        refused("append", ARGUMENT, () -> full(), x -> x.append(128));
    }
}
