import java.io.IOException;

/** The boundaries of the values and of the what-if questions. */
public final class ValueBoundaries extends Check {
    public static void main(String[] args) throws IOException {
        runSentences(ValueBoundaries.class);
    }

    /** 2 players; company 0 (home 0, 5 stops) has laid each of the 28 tracks so many times; all towns are worth 90. */
    private static StockLines fullLand(int level) {
        StockLines x = game(2);
        towns(x, 90, 90, 90, 90, 90, 90, 90, 90);
        x.start(0, 0, 8);
        for (int a = 0; a < 8; a++) {
            for (int b = a + 1; b < 8; b++) {
                for (int i = 0; i < level; i++) {
                    passes(x, 2);
                    thrown(x, StockLines::extend);
                    x.operate(a, b, false);
                }
            }
        }
        return x;
    }

    // ---- player

    @Says(in = "Promise 11: player", value = "Throws `IndexOutOfBoundsException` if there is no such player")
    static void playersAreThoseOfTheGame() {
        for (int players = 2; players <= 4; players++) {
            int all = players;
            accepted("the last one", () -> game(all), x -> x.player(all - 1, 0));
            refused("behind the last one", INDEX, () -> game(all), x -> x.player(all, 0));
        }
    }

    @Says(in = "Promise 11: player", value = "1 to 4 the shares of the companies 0 to 3")
    static void sharesOfAllCompanies() {
        StockLines x = game(2);
        int[] shares = {2, 3, 4, 1};
        for (int company = 0; company < 4; company++) {
            x.start(company, 0, 2);
            x.pass();
        }
        x.sell(3, 1);
        int[] bought = {1, 2, 2};
        for (int company : bought) {
            x.buy(company);
            x.pass();
        }
        for (int company = 0; company < 4; company++) {
            same("shares of " + company, x.player(0, company + 1), shares[company]);
            same("shares of player 1", x.player(1, company + 1), 0);
        }
    }

    @Says(in = "Promise 11: player", value = "5 the worth: the cash plus the price of each share")
    static void worthIsCashAndAllShares() {
        StockLines x = game(2);
        same("without a share", x.player(0, 5), 500);
        x.start(0, 0, 8);
        same("the same behind a start", x.player(0, 5), 500);
        x.start(1, 0, 3);
        x.buy(1);
        x.pass();
        same("of two companies", x.player(0, 5), 250 + 2 * 100 + 50);
        x.sell(0, 1);
        same("of a lower price", x.player(0, 5), 350 + 90 + 50);
        x.start(2, 0, 2);
        same("of three companies", x.player(0, 5), 270 + 90 + 50 + 2 * 40);
    }

    @Says(in = "Promise 11: player", value = "6 the companies of which the player is the president, as a set")
    static void presidenciesAreASet() {
        StockLines x = game(2);
        same("the empty set", x.player(0, 6), 0);
        int[] sets = {8, 12, 14, 15};
        for (int i = 0; i < 4; i++) {
            x.start(3 - i, 0, 2);
            same("set", x.player(0, 6), sets[i]);
            same("of player 1", x.player(1, 6), 0);
            x.pass();
        }
        for (int company = 0; company < 4; company++) {
            x.sell(company, 2);
            same("without company " + company, x.player(0, 6), 15 & -2 << company);
        }
    }

    // ---- company

    @Says(in = "Promise 12: company", value = "Returns that value; NONE for 1 to 8 if it is not open.")
    static void ofACompanyThatIsNotOpenThereIsNothing() {
        StockLines closed = poorSold(2, 9, 2);
        closed.operate(NONE, NONE, true);
        StockLines[] games = {new StockLines(), closed};
        for (StockLines x : games) {
            same("not open", x.company(0, 0), 0);
            for (int what = 1; what <= 8; what++) {
                same("what " + what, x.company(0, what), NONE);
            }
        }
    }

    @Says(in = "Promise 12: company", value = "5 its president (NONE without one)")
    static void presidentOrNone() {
        StockLines x = poor(2, 10);
        same("president", x.company(0, 5), 0);
        StockLines sold = poorSold(2, 10, 2);
        same("without one", sold.company(0, 5), NONE);
        same("the bank's", sold.company(0, 6), 10);
        same("other values", sold.company(0, 2), 10);
    }

    @Says(in = "Promise 12: company", value = "8 the income of its latest operating (0 before any)")
    static void noLatestIncomeBeforeAny() {
        StockLines x = operating();
        same("before any", x.company(0, 8), 0);
        x.operate(0, 3, true);
        same("the first one", x.company(0, 8), 50);
        passes(x, 3);
        x.setTown(3, 0);
        x.setTown(0, 0);
        same("still", x.company(0, 8), 50);
        x.operate(NONE, NONE, true);
        same("of 0", x.company(0, 8), 0);
    }

    @Says(in = "Promise 12: company", value = "7 the income of its best route")
    static void theIncomeNow() {
        StockLines x = operating();
        same("without a route", x.company(0, 7), 0);
        x.operate(0, 3, true);
        x.setTown(3, 90);
        same("now", x.company(0, 7), 100);
    }

    // ---- track, value, town

    @Says(in = "Promise 13: track", value = "Returns the level; 0 if both are the same.")
    static void aTownHasNoTrackToItself() {
        StockLines x = fullLand(2);
        for (int a = 0; a < 8; a++) {
            for (int b = 0; b < 8; b++) {
                same("track " + a + ", " + b, x.track(a, b), a == b ? 0 : 2);
            }
        }
    }

    @Says(in = "Promise 14: value", value = "2 the players who have passed one after the other (also in the operating"
            + " phase)")
    static void passedIsKeptInTheOperatingPhase() {
        for (int players = 2; players <= 4; players++) {
            StockLines x = game(players);
            x.start(0, 0, 2);
            x.start(1, 0, 2);
            passes(x, players);
            same("passed", x.value(2), players);
            x.extend();
            x.operate(0, 1, true);
            same("still", x.value(2), players);
            x.operate(NONE, NONE, true);
            same("stock phase", x.value(2), 0);
        }
    }

    @Says(in = "Promise 14: value", value = "1 the player whose turn it is or comes next")
    static void theTurnInTheOperatingPhase() {
        for (int players = 2; players <= 4; players++) {
            StockLines x = game(players);
            passes(x, players - 1);
            x.start(0, 0, 2);
            passes(x, players);
            same("operating", x.value(3), 1);
            same("the player behind the last one", x.value(1), 0);
            x.operate(NONE, NONE, true);
            same("the same", x.value(1), 0);
        }
    }

    @Says(in = "Promise 14: value", value = "4 the next company (NONE in the stock phase)")
    static void noNextCompanyInTheStockPhase() {
        StockLines x = new StockLines();
        same("stock phase", x.value(4), NONE);
        x.start(3, 0, 2);
        same("stock phase", x.value(4), NONE);
        passes(x, 3);
        same("operating phase", x.value(4), 3);
        x.operate(NONE, NONE, true);
        same("stock phase again", x.value(4), NONE);
    }

    @Says(in = "Promise 14: value", value = "7 the tracks of level 1 or 2")
    static void tracksAre28AtMost() {
        same("none", new StockLines().value(7), 0);
        same("all of level 1", fullLand(1).value(7), 28);
        same("all of level 2", fullLand(2).value(7), 28);
    }

    @Says(in = "Promise 14: value", value = "8 the open companies, 9 the companies that have been closed for want of"
            + " money so far")
    static void openAndClosedCompanies() {
        StockLines x = dear();
        same("open", x.value(8), 1);
        x.start(1, 7, 2);
        x.sell(0, 2);
        passes(x, 2);
        same("open", x.value(8), 2);
        same("closed", x.value(9), 0);
        x.operate(NONE, NONE, true);
        same("open", x.value(8), 1);
        same("closed", x.value(9), 1);
        x.operate(NONE, NONE, true);
        x.pass();
        x.start(0, 0, 2);
        same("open again", x.value(8), 2);
        same("closed so far", x.value(9), 1);
    }

    @Says(in = "Promise 15: town", value = "- `town`: 0 to 7")
    static void theFirstAndTheLastTown() {
        StockLines x = new StockLines();
        towns(x, 1, 2, 3, 4, 5, 6, 7, 8);
        for (int town = 0; town < 8; town++) {
            same("town " + town, x.town(town), town + 1);
        }
    }

    // ---- what if

    @Says(in = "Promise 16: route", value = "Returns the town; NONE if the company is not open, or its route has not so"
            + " many towns.")
    static void behindARouteIsNone() {
        StockLines x = new StockLines();
        same("not open", x.route(0, 0), NONE);
        x.start(0, 0, 8);
        same("no route", x.route(0, 0), NONE);
        passes(x, 3);
        x.operate(0, 1, true);
        routeIs(x, 0, 0, 1);
        same("far behind", x.route(0, Integer.MAX_VALUE), NONE);
        x.start(1, 7, 2);
        same("a route of another company", x.company(0, 7), 30);
        routeIs(x, 1);
        routeIs(fullLand(1), 0, 0, 1, 2, 3, 4);
        StockLines closed = poorSold(2, 9, 2);
        routeIs(closed, 0, 0, 1);
        closed.operate(NONE, NONE, true);
        same("not open any more", closed.route(0, 0), NONE);
    }

    @Says(in = "Promise 17: incomeWith", value = "if one track were better by one level (whatever it costs, wherever"
            + " it is)")
    static void aTrackThatCouldNotBeLaid() {
        StockLines x = poor(2, 0);
        same("without cash", x.incomeWith(0, 0, 6), 5);
        same("not joined", x.incomeWith(0, 7, 5), 0);
        x.setTown(7, 90);
        same("a new one", x.incomeWith(0, 7, 0), 90);
        same("a new one far away", x.incomeWith(0, 7, 6), 0);
        x.pass();
        x.start(1, 7, 2);
        same("of another company, far away", x.incomeWith(1, 0, 6), 0);
        same("of another company", x.incomeWith(1, 0, 7), 90);
        same("nothing is laid", x.track(0, 7), 0);
    }

    @Says(in = "Promise 17: incomeWith", value = "Returns the income; NONE if the company is not open, or the track has"
            + " level 2.")
    static void noTrackIsBetterThanLevel2() {
        StockLines x = operating();
        int[] due = {30, 35, NONE};
        for (int level = 0; level <= 2; level++) {
            same("with level " + level, x.incomeWith(0, 0, 1), due[level]);
            same("the other way", x.incomeWith(0, 1, 0), due[level]);
            same("not open", x.incomeWith(1, 0, 1), NONE);
            x.operate(level < 2 ? 0 : NONE, level < 2 ? 1 : NONE, true);
            passes(x, 3);
        }
    }

    @Says(in = "Promise 17: incomeWith", value = "Throws `IllegalArgumentException` if both towns are the same")
    static void theSameTownIsRefusedBeforeNone() {
        refused("not open", ARGUMENT, StockLines::new, x -> x.incomeWith(0, 7, 7));
        refused("open", ARGUMENT, () -> operating(), x -> x.incomeWith(0, 0, 0));
    }

    @Says(in = "Promise 18: bestTrack", value = "NONE if the company is not open, or can lay none")
    static void bestTrackNeedsTheCash() {
        same("not open", new StockLines().bestTrack(3), NONE);
        same("19 is not enough", poor(2, 19).bestTrack(0), NONE);
        StockLines level1 = poor(2, 20);
        same("20 is enough for level 1", level1.bestTrack(0), 7);
        same("39 is not for level 2", poor(2, 39).bestTrack(0), 7);
        same("40 is", poor(2, 40).bestTrack(0), 1);
        StockLines full = fullLand(2);
        same("all of level 2", full.bestTrack(0), NONE);
        full.undo();
        same("all but one", full.bestTrack(0), 67);
    }

    @Says(in = "Promise 18: bestTrack", value = "the track that the company could lay now, were it its turn")
    static void bestTrackMustBeJoined() {
        StockLines x = new StockLines();
        towns(x, 90, 90, 90, 90, 90, 0, 0, 0);
        x.start(0, 5, 8);
        same("from the home only", x.bestTrack(0), 5);
        x.start(1, 7, 8);
        same("of another company in the same turn", x.bestTrack(1), 7);
        passes(x, 3);
        same("when another one is next", x.bestTrack(1), 7);
        x.operate(5, 6, true);
        x.operate(7, 6, true);
        same("joined by two tracks, but too far for two stops", x.bestTrack(0), 5);
    }

    @Says(in = "Promise 18: bestTrack", value = "Returns 10 * (the lower town) + (the other one), of several the lowest"
            + " such number")
    static void ofSeveralTheLowestTrack() {
        StockLines x = new StockLines();
        x.start(0, 7, 8);
        worthless(x);
        same("all alike", x.bestTrack(0), 7);
        x.setTown(5, 1);
        x.setTown(6, 1);
        same("of two", x.bestTrack(0), 57);
        x.setTown(6, 2);
        same("one more", x.bestTrack(0), 67);
        StockLines y = new StockLines();
        y.start(0, 0, 8);
        worthless(y);
        same("all alike", y.bestTrack(0), 1);
        y.setTown(7, 1);
        same("the last one", y.bestTrack(0), 7);
    }

    @Says(in = "Promise 19: dividend", value = "Returns the income / 10; 0 if the company is not open.")
    static void dividendIsRoundedDown() {
        same("not open", new StockLines().dividend(0), 0);
        StockLines x = operating();
        same("no route", x.dividend(0), 0);
        x.operate(0, 1, true);
        x.setTown(0, 0);
        int[][] due = {{0, 0}, {9, 0}, {10, 1}, {19, 1}, {20, 2}, {89, 8}, {90, 9}};
        for (int[] one : due) {
            x.setTown(1, one[0]);
            same("of " + one[0], x.dividend(0), one[1]);
        }
        StockLines closed = poorSold(2, 9, 2);
        closed.setTown(6, 90);
        same("open", closed.dividend(0), 9);
        closed.setTown(6, 0);
        closed.operate(NONE, NONE, true);
        closed.setTown(6, 90);
        same("not open any more", closed.dividend(0), 0);
    }

    @Says(in = "Promise 20: leader", value = "Returns the player, of several the one with the lowest number.")
    static void ofSeveralTheLowestPlayerLeads() {
        for (int players = 2; players <= 4; players++) {
            for (int leader = 0; leader < players; leader++) {
                StockLines x = game(players);
                same("all alike", x.leader(), 0);
                passes(x, leader);
                x.start(0, 0, 8);
                same("still alike", x.leader(), 0);
                passes(x, players);
                x.setTown(1, 0);
                x.operate(0, 1, true);
                same("two shares have gained", x.leader(), leader);
            }
        }
    }

    @Says(in = "Promise 20: leader", value = "Finds the player with the greatest worth.")
    static void worthAndNotCashLeads() {
        StockLines x = game(4);
        passes(x, 2);
        x.start(0, 0, 8);
        x.buy(0);
        passes(x, 4);
        x.setTown(0, 1);
        x.setTown(1, 0);
        x.operate(0, 1, true);
        same("the most cash", x.player(0, 0), 500);
        same("the greatest worth", x.leader(), 2);
        passes(x, 4);
        x.operate(NONE, NONE, false);
        passes(x, 4);
        x.operate(NONE, NONE, false);
        same("two have lost", x.player(2, 5), 480);
        same("of two who have not", x.leader(), 0);
    }

    private static void unsoldIs(StockLines x, double due) {
        alike("unsold", x.unsold(), due);
    }

    @Says(in = "Promise 21: unsold", value = "divided by 10 times the number of open companies, converted to double; 0.0"
            + " without any")
    static void unsoldFrom0To1() {
        StockLines x = game(2);
        unsoldIs(x, 0.0);
        x.start(0, 0, 2);
        for (int bank = 8; bank > 0; bank--) {
            unsoldIs(x, bank / 10.0);
            x.buy(0);
        }
        unsoldIs(x, 0.0);
        x.start(1, 0, 2);
        unsoldIs(x, 8 / 20.0);
        x.start(2, 0, 2);
        unsoldIs(x, 16 / 30.0);
        unsoldIs(poorSold(2, 9, 2), 1.0);
        StockLines closed = poorSold(2, 9, 2);
        closed.operate(NONE, NONE, true);
        unsoldIs(closed, 0.0);
        StockLines four = game(4);
        for (int company = 0; company < 4; company++) {
            four.start(company, 0, 2);
        }
        unsoldIs(four, 32 / 40.0);
    }

    @Says(in = "Not promised", value = "Nothing is promised beyond the answers and state changes described above")
    static void askingChangesNothing() {
        asksOnly("player", () -> busy(), x -> x.player(1, 5));
        asksOnly("company", () -> busy(), x -> x.company(0, 7));
        asksOnly("track", () -> busy(), x -> x.track(0, 1));
        asksOnly("value", () -> busy(), x -> x.value(4));
        asksOnly("town", () -> busy(), x -> x.town(0));
        asksOnly("route", () -> busy(), x -> x.route(0, 0));
        asksOnly("incomeWith, a new track", () -> busy(), x -> x.incomeWith(0, 0, 7));
        asksOnly("incomeWith, a better track", () -> busy(), x -> x.incomeWith(0, 0, 1));
        asksOnly("incomeWith, level 2", () -> busy(), x -> x.incomeWith(0, 0, 2));
        asksOnly("bestTrack", () -> busy(), x -> x.bestTrack(0));
        asksOnly("dividend", () -> busy(), x -> x.dividend(0));
        asksOnly("leader", () -> busy(), StockLines::leader);
        asksOnly("unsold", () -> busy(), StockLines::unsold);
        asksOnly("digest", () -> busy(), StockLines::digest);
    }

    /** Tracks of both levels, a text, and a company that has got its stop. */
    private static StockLines busy() {
        StockLines x = game(2);
        x.start(0, 0, 8);
        round(x, 0, 1, true);
        round(x, 0, 2, true);
        round(x, 0, 2, true);
        x.start(1, 5, 4);
        write(x, "p;o;p;");
        passes(x, 2);
        x.extend();
        return x;
    }
}
