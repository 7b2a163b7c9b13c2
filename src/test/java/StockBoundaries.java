import java.io.IOException;

/** The boundaries of a new object, the land, companies, players and the bank, and of the stock phase. */
public final class StockBoundaries extends Check {
    private static final String TERMS = "Terms";

    public static void main(String[] args) throws IOException {
        runSentences(StockBoundaries.class);
    }

    // ---- a new object

    @Says(in = "Promise 1: A new object",
            value = "Creates a game of 3 players in its first stock phase; it is player 0's turn.")
    static void aNewObjectIsAtTheBeginning() {
        StockLines x = new StockLines();
        int[] due = {3, 0, 0, 0, NONE, 0, 0, 0, 0, 0};
        for (int what = 0; what < due.length; what++) {
            same("value " + what, x.value(what), due[what]);
        }
        same("no text", x.clearText(), 0);
        same("no saved state", savedStates(x), 0);
    }

    @Says(in = TERMS, value = "`NONE = -1`: There is no such thing.")
    static void noneIsMinusOne() {
        same("NONE", StockLines.NONE, -1);
    }

    // ---- land

    @Says(in = TERMS, value = "There are 8 towns, numbered from 0")
    static void townsAre0To7() {
        accepted("town 0", StockLines::new, x -> x.town(0));
        accepted("town 7", StockLines::new, x -> x.town(7));
        refused("town 8", INDEX, StockLines::new, x -> x.town(8));
    }

    @Says(in = TERMS, value = "town t has the value 10 + 10 * (t modulo 4), initially")
    static void townValuesBeginAnewAtTown4() {
        StockLines x = new StockLines();
        int[] due = {10, 20, 30, 40, 10, 20, 30, 40};
        for (int town = 0; town < due.length; town++) {
            same("town " + town, x.town(town), due[town]);
        }
    }

    @Says(in = TERMS, value = "Between any two towns there can be a track, of level 0 (none, initially), 1 or 2.")
    static void everyPairOfTownsTakesTwoLevels() {
        for (int a = 0; a < 8; a++) {
            for (int b = 0; b < 8; b++) {
                if (a != b) {
                    twoLevels(a, b);
                }
            }
        }
    }

    private static void twoLevels(int a, int b) {
        StockLines x = game(2);
        x.start(0, a, 8);
        for (int level = 0; level <= 2; level++) {
            same("level of " + a + ", " + b, x.track(a, b), level);
            same("level of " + b + ", " + a, x.track(b, a), level);
            same("tracks", x.value(7), level == 0 ? 0 : 1);
            passes(x, 2);
            x.operate(level < 2 ? a : NONE, level < 2 ? b : NONE, false);
        }
    }

    // ---- companies

    @Says(in = TERMS, value = "There are at most 4 companies, numbered from 0.")
    static void fourCompaniesCanBeOpen() {
        StockLines x = game(4);
        for (int company = 0; company < 4; company++) {
            x.start(company, 0, 2);
            same("open companies", x.value(8), company + 1);
        }
        for (int company = 0; company < 4; company++) {
            same("company " + company, x.company(company, 0), 1);
        }
    }

    @Says(in = TERMS, value = "a price step from 0 to 11 (its price is 20 + 10 * step)")
    static void pricesGoFrom20To130() {
        StockLines x = operating();
        for (int step = 8; step <= 12; step++) {
            same("price", x.company(0, 3), Math.min(130, 20 + 10 * step));
            x.operate(step == 8 ? 0 : NONE, step == 8 ? 1 : NONE, true);
            passes(x, 3);
        }
        for (int step = 11; step >= -1; step--) {
            same("price", x.company(0, 3), Math.max(20, 20 + 10 * step));
            x.operate(NONE, NONE, false);
            passes(x, 3);
        }
    }

    @Says(in = TERMS, value = "and 10 shares; shares that no player holds are the bank's")
    static void heldSharesAndTheBanksAreTen() {
        StockLines x = game(2);
        x.start(2, 0, 2);
        for (int bank = 8; bank >= 0; bank--) {
            same("the bank's", x.company(2, 6), bank);
            same("all", x.company(2, 6) + x.player(0, 3) + x.player(1, 3), 10);
            if (bank > 0) {
                x.buy(2);
            }
        }
        x.sell(2, 4);
        same("the bank's", x.company(2, 6), 4);
    }

    // ---- players

    @Says(in = TERMS, value = "There are 2 to 4 players, numbered from 0, initially 3; each has 500 of cash at first.")
    static void playersAre2To4() {
        StockLines x = new StockLines();
        same("initially", x.value(0), 3);
        for (int players = 2; players <= 4; players++) {
            x.begin(players);
            same("players", x.value(0), players);
            for (int player = 0; player < players; player++) {
                same("cash of player " + player, x.player(player, 0), 500);
            }
            int behind = players;
            alike("player " + players, thrown(x, y -> y.player(behind, 0)), INDEX);
        }
    }

    @Says(in = TERMS, value = "The president of a company is the player who holds the most shares of it")
    static void oneShareMoreMakesAPresident() {
        StockLines x = game(2);
        x.start(0, 0, 2);
        x.buy(0);
        x.pass();
        x.buy(0);
        same("two against two", x.company(0, 5), 0);
        x.pass();
        x.buy(0);
        same("three against two", x.company(0, 5), 1);
        x.buy(0);
        same("three against three", x.company(0, 5), 1);
        x.pass();
        x.buy(0);
        same("three against four", x.company(0, 5), 0);
    }

    @Says(in = TERMS, value = "of several the president of before, if this is one of them")
    static void thePresidentOfBeforeStaysAmongSeveral() {
        for (int president = 0; president < 4; president++) {
            StockLines x = game(4);
            passes(x, president);
            x.start(0, 0, 2);
            for (int bought = 0; bought < 6; bought++) {
                if (x.value(1) == president) {
                    x.pass();
                }
                x.buy(0);
            }
            same("all have two", x.company(0, 6), 2);
            same("president", x.company(0, 5), president);
        }
    }

    @Says(in = TERMS, value = "otherwise the one with the lowest number")
    static void ofOthersTheLowestNumberIsPresident() {
        for (int president = 0; president < 4; president++) {
            StockLines x = game(4);
            passes(x, president);
            x.start(0, 0, 2);
            for (int bought = 0; bought < 3; bought++) {
                x.buy(0);
            }
            same("president of before", x.company(0, 5), president);
            x.sell(0, 2);
            same("of three with one share", x.company(0, 5), president == 0 ? 1 : 0);
        }
    }

    @Says(in = TERMS, value = "without a player who holds a share there is none")
    static void withoutAShareThereIsNoPresident() {
        StockLines x = game(2);
        x.start(3, 0, 2);
        x.pass();
        x.sell(3, 1);
        same("one share is enough", x.company(3, 5), 0);
        x.sell(3, 1);
        same("none", x.company(3, 5), NONE);
        same("no presidencies", x.player(0, 6), 0);
        same("still open", x.company(3, 0), 1);
        x.start(0, 0, 2);
        x.buy(3);
        same("the next one", x.company(3, 5), 1);
    }

    // ---- bank

    @Says(in = TERMS, value = "The bank can always pay.")
    static void theBankPaysWithoutMoney() {
        StockLines x = game(4);
        for (int company = 0; company < 4; company++) {
            same("paid", x.start(company, company, 8), 500);
            same("balance", x.value(6), -300 * (company + 1));
        }
        StockLines rich = game(2);
        rich.setTown(0, 90);
        rich.setTown(1, 90);
        rich.start(0, 0, 8);
        round(rich, 0, 1, false);
        for (int i = 1; i <= 30; i++) {
            round(rich, NONE, NONE, false);
            same("balance", rich.value(6), -300 + 20 - 170 * (i + 1));
        }
        same("cash", rich.start(1, 0, 8), 500);
    }

    @Says(in = TERMS, value = "The bank's balance is 0 at first, and can be negative.")
    static void theBalanceFallsBelow0AndRisesAbove() {
        StockLines x = new StockLines();
        same("at first", x.value(6), 0);
        x.start(0, 0, 2);
        same("80 - 200", x.value(6), -120);
        for (int bought = 1; bought <= 3; bought++) {
            x.buy(0);
            same("balance", x.value(6), -120 + 40 * bought);
        }
        x.buy(0);
        same("above 0", x.value(6), 40);
    }

    @Says(in = TERMS, value = "All that is paid by players and companies, if not to one of them, goes to the bank.")
    static void noMoneyIsLost() {
        StockLines x = dear();
        moneyIs(x, 1000);
        x.start(1, 7, 3);
        moneyIs(x, 1000);
        x.start(2, 7, 2);
        x.buy(2);
        x.sell(2, 1);
        x.sell(0, 1);
        moneyIs(x, 1000);
        x.merge(0, 2);
        moneyIs(x, 1000);
        passes(x, 2);
        x.extend();
        moneyIs(x, 1000);
        x.operate(0, 1, true);
        moneyIs(x, 1000);
        x.operate(7, 6, false);
        moneyIs(x, 1000);
    }

    private static void moneyIs(StockLines x, int due) {
        int sum = x.value(6);
        for (int player = 0; player < x.value(0); player++) {
            sum += x.player(player, 0);
        }
        for (int company = 0; company < 4; company++) {
            sum += Math.max(0, x.company(company, 2));
        }
        same("all money", sum, due);
    }

    // ---- turns

    @Says(in = TERMS, value = "The game begins in it.")
    static void theGameBeginsInTheStockPhase() {
        same("phase", new StockLines().value(3), 0);
        StockLines x = operating();
        x.begin(3);
        same("phase of another game", x.value(3), 0);
    }

    @Says(in = TERMS, value = "The player whose turn it is can sell as often as wanted, and ends the turn by one of these")
    static void sellingDoesNotEndTheTurn() {
        StockLines x = game(2);
        x.start(0, 0, 2);
        for (int held = 3; held <= 6; held++) {
            x.pass();
            x.buy(0);
        }
        x.pass();
        for (int left = 5; left >= 0; left--) {
            x.sell(0, 1);
            same("shares", x.player(0, 1), left);
            same("turn", x.value(1), 0);
        }
        x.start(1, 0, 2);
        same("behind the start", x.value(1), 1);
    }

    @Says(in = TERMS, value = "The next turn is the next player's (behind the last one: player 0).")
    static void behindTheLastPlayerIsPlayer0ByPassing() {
        for (int players = 2; players <= 4; players++) {
            StockLines x = game(players);
            for (int i = 0; i < 2 * players; i++) {
                same("turn among " + players, x.value(1), i % players);
                x.pass();
            }
        }
    }

    @Says(in = TERMS, value = "The next turn is the next player's (behind the last one: player 0).")
    static void behindTheLastPlayerIsPlayer0ByStarting() {
        for (int players = 2; players <= 4; players++) {
            StockLines x = game(players);
            for (int company = 0; company < 4; company++) {
                same("turn among " + players, x.value(1), company % players);
                x.start(company, 0, 2);
            }
            same("turn among " + players, x.value(1), 4 % players);
        }
    }

    @Says(in = TERMS, value = "The next turn is the next player's (behind the last one: player 0).")
    static void behindTheLastPlayerIsPlayer0ByBuying() {
        for (int players = 2; players <= 4; players++) {
            StockLines x = game(players);
            x.start(0, 0, 2);
            for (int i = 1; i <= 8; i++) {
                same("turn among " + players, x.value(1), i % players);
                x.buy(0);
            }
        }
    }

    @Says(in = TERMS, value = "The next turn is the next player's (behind the last one: player 0).")
    static void behindTheLastPlayerIsPlayer0ByMerging() {
        for (int players = 2; players <= 4; players++) {
            StockLines x = game(players);
            passes(x, players - 1);
            x.start(0, 0, 2);
            passes(x, players - 1);
            x.start(1, 0, 2);
            passes(x, players - 1);
            same("the last one", x.value(1), players - 1);
            x.merge(0, 1);
            same("turn among " + players, x.value(1), 0);
        }
    }

    @Says(in = TERMS, value = "When as many players as there are have passed one after the other"
            + " (selling does not matter for that), the operating phase begins.")
    static void theOperatingPhaseBeginsWhenAllHavePassed() {
        for (int players = 2; players <= 4; players++) {
            StockLines x = game(players);
            x.start(0, 0, 2);
            for (int i = 1; i < players; i++) {
                same("pass " + i + " of " + players, x.pass(), 0);
                same("phase", x.value(3), 0);
                same("passed", x.value(2), i);
            }
            same("the last pass", x.pass(), 1);
            same("phase", x.value(3), 1);
        }
    }

    @Says(in = TERMS, value = "(selling does not matter for that)")
    static void sellingDoesNotMatterForPassing() {
        StockLines x = new StockLines();
        x.start(0, 0, 2);
        passes(x, 2);
        x.sell(0, 1);
        same("passed", x.value(2), 2);
        same("the third one passes", x.pass(), 1);
    }

    @Says(in = TERMS, value = "have passed one after the other")
    static void aTurnThatIsNoPassBreaksTheRow() {
        StockLines x = game(2);
        x.pass();
        x.start(0, 0, 2);
        same("behind a start", x.value(2), 0);
        same("one has passed", x.pass(), 0);
        x.buy(0);
        same("behind a share", x.value(2), 0);
        same("one has passed", x.pass(), 0);
        x.start(1, 0, 2);
        same("one has passed", x.pass(), 0);
        x.merge(0, 1);
        same("behind a merger", x.value(2), 0);
        same("one has passed", x.pass(), 0);
        same("two have", x.pass(), 1);
    }

    // ---- begin

    @Says(in = "Promise 2: begin", value = "all is as at first, but for the number of players, and the values of towns"
            + " and the text, which stay")
    static void beginLeavesTownsAndTextAlone() {
        StockLines played = poorSold(2, 9, 2);
        played.operate(NONE, NONE, true);
        same("a company has been closed", played.value(9), 1);
        passes(played, 1);
        played.start(3, 1, 8);
        passes(played, 2);
        played.extend();
        StockLines fresh = new StockLines();
        for (StockLines x : new StockLines[] {played, fresh}) {
            towns(x, 0, 90, 1, 2, 3, 4, 5, 6);
            write(x, "p;p;");
            x.begin(4);
        }
        same("digest", played.digest(), fresh.digest());
        for (int town = 2; town < 8; town++) {
            same("town " + town, played.town(town), town - 1);
        }
        same("text", played.append('q'), fresh.append('q'));
        same("length of the text", played.clearText(), 5);
        same("length of the text", fresh.clearText(), 5);
        write(played, "p;p;");
        write(fresh, "p;p;");
        same("the text is played", played.play(), fresh.play());
        passes(fresh, 2);
        passes(played, 2);
        alike("the game goes on", wayOn(played), wayOn(fresh));
    }

    @Says(in = "Promise 2: begin", value = "- `players`: 2 to 4")
    static void beginTakes2To4() {
        StockLines x = new StockLines();
        for (int players = 2; players <= 4; players++) {
            x.begin(players);
            same("players", x.value(0), players);
            same("the first player's turn", x.value(1), 0);
        }
    }

    @Says(in = "Promise 2: begin", value = "Returns the number of operating phases of the game before.")
    static void beginTellsThePhasesOfTheGameBefore() {
        StockLines x = new StockLines();
        same("no game yet", x.begin(2), 0);
        passes(x, 2);
        same("one that was over at once", x.begin(2), 1);
        same("none behind a begin", x.begin(2), 0);
        x.start(0, 0, 8);
        round(x, NONE, NONE, true);
        round(x, NONE, NONE, true);
        same("two", x.begin(2), 2);
        x.undo();
        same("two again", x.begin(2), 2);
    }

    // ---- setTown

    @Says(in = "Promise 3: setTown", value = "- `value`: 0 to 90")
    static void townsAreWorth0To90() {
        StockLines x = new StockLines();
        for (int town = 0; town < 8; town += 7) {
            x.setTown(town, 0);
            same("least value", x.town(town), 0);
            x.setTown(town, 90);
            same("greatest value", x.town(town), 90);
        }
        same("another town", x.town(6), 30);
    }

    @Says(in = "Promise 3: setTown", value = "Returns the previous value.")
    static void setTownTellsThePreviousValue() {
        StockLines x = new StockLines();
        same("first value", x.setTown(7, 90), 40);
        same("greatest value", x.setTown(7, 0), 90);
        same("least value", x.setTown(7, 0), 0);
    }

    // ---- start

    /** 2 players, player 1 is next with 90 + dividend of cash; company 2 has the price 100; company 3 is not open. */
    private static StockLines savedUp(int dividend) {
        StockLines x = game(2);
        x.start(0, 0, 8);
        x.start(1, 7, 8);
        x.pass();
        x.buy(0);
        passes(x, 2);
        x.setTown(0, 50);
        x.setTown(1, 10 * dividend - 50);
        x.operate(0, 1, true);
        x.operate(NONE, NONE, false);
        x.pass();
        x.buy(0);
        x.start(2, 5, 8);
        same("cash", x.player(1, 0), 90 + dividend);
        return x;
    }

    @Says(in = TERMS, value = "with a home town and a step from 2 to 8; the player buys two of its shares at its price"
            + " from the bank; the company gets 5 times its price from the bank as cash, has 2 stops, and is open")
    static void everyStepFrom2To8Starts() {
        for (int step = 2; step <= 8; step++) {
            StockLines x = new StockLines();
            int price = 20 + 10 * step;
            same("company's cash", x.start(3, 7, step), 5 * price);
            int[] due = {1, 7, 5 * price, price, 2, 0, 8, 0, 0};
            for (int what = 0; what < due.length; what++) {
                same("what " + what, x.company(3, what), due[what]);
            }
            same("player's cash", x.player(0, 0), 500 - 2 * price);
            same("player's shares", x.player(0, 4), 2);
            same("balance", x.value(6), 2 * price - 5 * price);
        }
    }

    @Says(in = "Promise 4: start", value = "- `company`: 0 to 3")
    static void companies0To3Start() {
        for (int company = 0; company < 4; company++) {
            StockLines x = new StockLines();
            x.start(company, 0, 2);
            same("open", x.company(company, 0), 1);
        }
    }

    @Says(in = "Promise 4: start", value = "- `home`: 0 to 7")
    static void homes0To7() {
        for (int home = 0; home < 8; home++) {
            StockLines x = new StockLines();
            x.start(0, home, 2);
            same("home", x.company(0, 1), home);
        }
    }

    @Says(in = "Promise 4: start", value = "or the player has not enough cash")
    static void startNeedsTwicePrice() {
        refused("cash of 99 for 100", STATE, () -> savedUp(9), x -> x.start(3, 0, 3));
        StockLines x = savedUp(10);
        same("cash of 100 for 100", x.start(3, 0, 3), 250);
        same("nothing left", x.player(1, 0), 0);
        StockLines y = savedUp(9);
        same("cash of 99 for 80", y.start(3, 0, 2), 200);
    }

    @Says(in = "Promise 4: start", value = "the company is open")
    static void anOpenCompanyDoesNotStartButAClosedOneDoes() {
        refused("open", STATE, () -> savedUp(10), x -> x.start(2, 0, 2));
        StockLines closed = poorSold(5, 9, 2);
        closed.operate(NONE, NONE, true);
        same("behind a closing", closed.start(0, 3, 2), 200);
        same("shares", closed.company(0, 6), 8);
        same("stops", closed.company(0, 4), 2);
        same("home", closed.company(0, 1), 3);
        StockLines merged = bothOf(2, 2);
        merged.merge(0, 1);
        same("behind a merger", merged.start(1, 3, 2), 200);
        same("shares", merged.company(1, 6), 8);
        same("stops", merged.company(1, 4), 2);
        same("home", merged.company(1, 1), 3);
    }

    // ---- buy

    /** 2 players, player 0 is next, with so many shares of company 0 (price 40), of which the bank has so many. */
    private static StockLines held(int shares, int bank) {
        StockLines x = game(2);
        x.start(0, 0, 2);
        while (x.player(0, 1) < shares || x.company(0, 6) > bank || x.value(1) == 1) {
            boolean first = x.value(1) == 0;
            if (first ? x.player(0, 1) < shares : x.company(0, 6) > bank + shares - x.player(0, 1)) {
                x.buy(0);
            } else {
                x.pass();
            }
        }
        same("shares", x.player(0, 1), shares);
        same("the bank's", x.company(0, 6), bank);
        return x;
    }

    @Says(in = TERMS, value = "one of the bank's, at the price, if the player holds fewer than 6 of it")
    static void aSixthShareIsBoughtButNoSeventh() {
        for (int before = 2; before <= 5; before++) {
            StockLines x = held(before, 2);
            int cash = x.player(0, 0);
            same("shares then", x.buy(0), before + 1);
            same("paid", cash - x.player(0, 0), 40);
        }
        refused("a seventh", STATE, () -> held(6, 1), x -> x.buy(0));
        StockLines more = bothOf(6, 4);
        more.merge(0, 1);
        more.pass();
        same("eight by a merger", more.player(0, 1), 8);
        refused("a ninth", STATE, () -> behindMerger(6, 4), x -> x.buy(0));
    }

    @Says(in = "Promise 5: buy", value = "the bank has no share of it")
    static void theLastShareIsBought() {
        StockLines x = held(4, 1);
        same("the last one", x.buy(0), 5);
        same("the bank's", x.company(0, 6), 0);
        refused("none", STATE, () -> held(5, 0), y -> y.buy(0));
    }

    @Says(in = "Promise 5: buy", value = "or has not enough cash")
    static void buyNeedsThePrice() {
        refused("cash of 99 for 100", STATE, () -> savedUp(9), x -> x.buy(2));
        StockLines x = savedUp(10);
        same("cash of 100 for 100", x.buy(2), 1);
        same("nothing left", x.player(1, 0), 0);
    }

    @Says(in = "Promise 5: buy", value = "the company is not open")
    static void aCompanyThatIsNotOpenSellsNoShare() {
        refused("never open", STATE, () -> game(2), x -> x.buy(3));
        refused("merged", STATE, () -> behindMerger(2, 2), x -> x.buy(1));
    }

    // ---- sell

    @Says(in = TERMS, value = "some that the player holds, all at the price as it is, to the bank; then the step falls"
            + " by 1 once, not below 0")
    static void allAreSoldAtOnePrice() {
        for (int shares = 1; shares <= 6; shares++) {
            StockLines x = held(6, 4);
            int cash = x.player(0, 0);
            same("cash then", x.sell(0, shares), cash + 40 * shares);
            same("price", x.company(0, 3), 30);
            same("left", x.player(0, 1), 6 - shares);
            same("the bank's", x.company(0, 6), 4 + shares);
        }
    }

    @Says(in = TERMS, value = "then the step falls by 1 once, not below 0")
    static void thePriceFallsTo20AndNotBelow() {
        StockLines x = held(6, 4);
        int[] prices = {40, 30, 20, 20, 20, 20};
        int cash = x.player(0, 0);
        for (int price : prices) {
            cash += price;
            same("cash", x.sell(0, 1), cash);
        }
        same("price", x.company(0, 3), 20);
    }

    @Says(in = "Promise 6: sell", value = "or the player holds fewer shares of it")
    static void onlyHeldSharesAreSold() {
        for (int shares = 2; shares <= 6; shares++) {
            int more = shares + 1;
            refused("one too many", STATE, () -> held(more - 1, 2), x -> x.sell(0, more));
            StockLines x = held(shares, 2);
            x.sell(0, shares);
            same("all are sold", x.player(0, 1), 0);
        }
        refused("another player's", STATE, () -> behindStart(), x -> x.sell(0, 1));
    }

    private static StockLines behindStart() {
        StockLines x = game(2);
        x.start(0, 0, 2);
        return x;
    }

    @Says(in = "Promise 6: sell", value = "- `shares`: 1 to 10")
    static void tenSharesAreSoldAtOnce() {
        StockLines x = tenShares();
        same("the bank's", x.company(0, 6), 0);
        int cash = x.player(0, 0);
        same("ten at 40", x.sell(0, 10), cash + 400);
        same("price", x.company(0, 3), 30);
        same("the bank's", x.company(0, 6), 10);
        same("no president", x.company(0, 5), NONE);
        StockLines y = tenShares();
        y.sell(0, 1);
        alike("ten of nine", thrown(y, z -> z.sell(0, 10)), STATE);
    }

    // ---- merge

    /** 2 players, player 0 is next, the president of 0 (price 40) and 1 (price 50), with so many shares of both. */
    private static StockLines bothOf(int of0, int of1) {
        StockLines x = game(2);
        x.start(0, 0, 2);
        x.pass();
        x.start(1, 0, 3);
        for (int have = 2; have < of0; have++) {
            x.pass();
            x.buy(0);
        }
        for (int have = 2; have < of1; have++) {
            x.pass();
            x.buy(1);
        }
        x.pass();
        return x;
    }

    private static StockLines behindMerger(int of0, int of1) {
        StockLines x = bothOf(of0, of1);
        x.merge(0, 1);
        x.pass();
        return x;
    }

    @Says(in = TERMS, value = "Each player gets, for two shares of b, one share of a from the bank (if the bank has"
            + " enough for all), and, for a share that is left over, half of b's price from the bank")
    static void sharesAreExchangedTwoForOne() {
        for (int shares = 2; shares <= 6; shares++) {
            StockLines x = bothOf(2, shares);
            int cash = x.player(0, 0);
            int balance = x.value(6);
            same("cash of both", x.merge(0, 1), 200 + 250);
            same("shares for " + shares, x.player(0, 1), 2 + shares / 2);
            same("cash for " + shares, x.player(0, 0) - cash, shares % 2 == 0 ? 0 : 25);
            same("paid by the bank", balance - x.value(6), shares % 2 == 0 ? 0 : 25);
        }
    }

    @Says(in = TERMS, value = "for a share that is left over, half of b's price from the bank")
    static void aSingleShareIsPaidByHalf() {
        StockLines x = game(2);
        x.start(0, 0, 2);
        x.pass();
        x.start(1, 0, 3);
        x.buy(1);
        x.sell(1, 1);
        same("price", x.company(1, 3), 40);
        int first = x.player(0, 0);
        int second = x.player(1, 0);
        x.merge(0, 1);
        same("no share for one", x.player(0, 1), 2);
        same("no share for one of another", x.player(1, 1), 0);
        same("half of 40", x.player(0, 0) - first, 20);
        same("half of 40 for another", x.player(1, 0) - second, 20);
    }

    /** Player 0 is the president of 0 and 1, for which four shares of 0 are due, of which the bank has 1 or 2. */
    private static StockLines scarce(boolean enough) {
        StockLines x = game(2);
        x.start(0, 0, 2);
        x.buy(0);
        x.start(1, 0, 2);
        int[] bought = {0, 0, 0, 0, 0};
        for (int company : bought) {
            x.buy(company);
        }
        for (int i = 0; i < 2; i++) {
            if (i == 0 && !enough) {
                x.buy(0);
            } else {
                x.pass();
            }
            x.buy(1);
        }
        same("the bank's", x.company(0, 6), enough ? 2 : 1);
        return x;
    }

    @Says(in = TERMS, value = "(if the bank has enough for all)")
    static void theBankMustHaveEnoughForAll() {
        refused("one of two", STATE, () -> scarce(false), x -> x.merge(0, 1));
        StockLines x = scarce(true);
        x.merge(0, 1);
        same("none is left", x.company(0, 6), 0);
        same("one more", x.player(0, 1), 5);
        same("one more of another", x.player(1, 1), 5);
    }

    @Says(in = TERMS, value = "(if the bank has enough for all)")
    static void noShareIsEnoughForNone() {
        StockLines x = held(6, 0);
        x.start(1, 0, 2);
        x.pass();
        x.sell(1, 1);
        same("the bank's", x.company(0, 6), 0);
        same("cash of both", x.merge(0, 1), 400);
        same("shares", x.player(0, 1), 6);
        StockLines y = held(6, 0);
        y.start(1, 0, 2);
        y.buy(1);
        y.sell(1, 1);
        same("one share each needs none of the bank's", y.merge(0, 1), 400);
    }

    @Says(in = TERMS, value = "a gets the cash of b; b is not open any more.")
    static void theOtherCompanyIsGone() {
        StockLines x = bothOf(3, 5);
        int balance = x.value(6);
        same("cash of both", x.merge(1, 0), 200 + 250);
        same("half a price is paid, no cash of a company", balance - x.value(6), 20);
        same("not open", x.company(0, 0), 0);
        for (int what = 1; what <= 8; what++) {
            same("what " + what, x.company(0, what), NONE);
        }
        same("shares", x.player(0, 1), 0);
        same("presidencies", x.player(0, 6), 2);
        same("open companies", x.value(8), 1);
        same("closed for want of money", x.value(9), 0);
        same("price of the other one", x.company(1, 3), 50);
    }

    @Says(in = TERMS, value = "To merge a company b into a company a: if the player is the president of both.")
    static void onlyThePresidentOfBothMerges() {
        refused("of the first only", STATE, () -> oneEach(), x -> x.merge(0, 1));
        refused("of the second only", STATE, () -> oneEach(), x -> x.merge(1, 0));
        refused("of none", STATE, () -> noPresidents(), x -> x.merge(0, 1));
        refused("of one, the other without", STATE, () -> noPresidents(), x -> x.merge(0, 2));
        refused("of one, the other without", STATE, () -> noPresidents(), x -> x.merge(2, 0));
        accepted("of both", () -> bothOf(2, 2), x -> x.merge(0, 1));
    }

    private static StockLines oneEach() {
        StockLines x = game(2);
        x.start(0, 0, 2);
        x.start(1, 0, 2);
        return x;
    }

    /** Player 0 has sold all of 0 and 1, and is the president of 2. */
    private static StockLines noPresidents() {
        StockLines x = bothOf(2, 2);
        x.sell(0, 2);
        x.sell(1, 2);
        x.start(2, 0, 2);
        x.pass();
        return x;
    }

    @Says(in = TERMS, value = "(A player may hold more than 6 of a by that; its president is found anew once,"
            + " behind all.)")
    static void aMergerGivesMoreThanSix() {
        StockLines seven = bothOf(6, 2);
        seven.merge(0, 1);
        same("seven", seven.player(0, 1), 7);
        StockLines x = bothOf(6, 5);
        x.merge(0, 1);
        same("eight", x.player(0, 1), 8);
        same("president", x.company(0, 5), 0);
    }

    @Says(in = TERMS, value = "its president is found anew once, behind all.")
    static void thePresidentIsNotFoundBetween() {
        StockLines x = game(2);
        x.pass();
        x.start(0, 0, 2);
        x.buy(0);
        x.start(1, 0, 2);
        x.buy(0);
        x.pass();
        x.buy(1);
        x.pass();
        x.buy(1);
        x.merge(0, 1);
        same("like ones", x.player(0, 1), 3);
        same("like ones", x.player(1, 1), 3);
        same("not player 0, who gets a share first", x.company(0, 5), 1);
    }

    // ---- pass

    @Says(in = "Promise 8: pass", value = "Returns 1 if the operating phase begins by that, otherwise 0 (also if the"
            + " stock phase begins again at once).")
    static void passTellsWhetherThePhaseBegins() {
        StockLines x = new StockLines();
        same("first", x.pass(), 0);
        same("second", x.pass(), 0);
        same("third, without a company", x.pass(), 0);
        x.start(0, 0, 2);
        same("first", x.pass(), 0);
        same("second", x.pass(), 0);
        same("third", x.pass(), 1);
    }

    @Says(in = TERMS, value = "(It is so at once, if no company is open; that, too, is an operating phase that is"
            + " over.)")
    static void aPhaseWithoutCompaniesIsOverAtOnce() {
        for (int players = 2; players <= 4; players++) {
            StockLines x = game(players);
            for (int phase = 1; phase <= 3; phase++) {
                passes(x, players);
                same("phases", x.value(5), phase);
                same("stock phase", x.value(3), 0);
                same("nobody has passed", x.value(2), 0);
                same("next company", x.value(4), NONE);
                same("turn", x.value(1), 0);
            }
        }
        StockLines closed = poorSold(2, 9, 2);
        closed.operate(NONE, NONE, true);
        int before = closed.value(5);
        same("turn", closed.value(1), 1);
        passes(closed, 2);
        same("phases behind a closing", closed.value(5), before + 1);
        same("turn", closed.value(1), 1);
    }
}
