import java.io.IOException;
import java.util.Arrays;

/** The boundaries of the operating phase: the order, stops, tracks, routes, dividends, upkeep and its end. */
public final class OperatingBoundaries extends Check {
    private static final String TERMS = "Terms";

    public static void main(String[] args) throws IOException {
        runSentences(OperatingBoundaries.class);
    }

    // ---- order

    /** Companies are started from 3 down to 0, with these steps (0: it is not started). */
    private static void orderIs(int[] steps, int... due) {
        StockLines x = game(4);
        for (int company = 3; company >= 0; company--) {
            if (steps[company] > 0) {
                x.start(company, company, steps[company]);
            }
        }
        passes(x, 4);
        for (int company : due) {
            same("next company", x.value(4), company);
            x.operate(NONE, NONE, true);
        }
        same("over", x.value(4), NONE);
        same("phase", x.value(3), 0);
    }

    @Says(in = TERMS, value = "open companies, by price from the highest one on, of like ones the lowest number first")
    static void ofLikePricesTheLowestNumberIsFirst() {
        orderIs(new int[] {2, 2, 2, 2}, 0, 1, 2, 3);
        orderIs(new int[] {2, 3, 4, 5}, 3, 2, 1, 0);
        orderIs(new int[] {5, 4, 3, 2}, 0, 1, 2, 3);
        orderIs(new int[] {3, 4, 3, 4}, 1, 3, 0, 2);
        orderIs(new int[] {4, 2, 4, 3}, 0, 2, 3, 1);
        orderIs(new int[] {0, 2, 0, 3}, 3, 1);
        orderIs(new int[] {0, 0, 0, 8}, 3);
    }

    /** dear, with 1 of player 1 (price 40), and 2 of player 0 (price 50), who has no cash left; 0 is next to operate. */
    private static StockLines threeCompanies() {
        StockLines x = dear();
        x.start(1, 7, 2);
        x.start(2, 7, 3);
        int[] bought = {2, 2, 2, 2, 0};
        for (int company : bought) {
            x.pass();
            x.buy(company);
        }
        passes(x, 2);
        same("no cash is left", x.player(0, 0), 0);
        return x;
    }

    @Says(in = TERMS, value = "The order of the companies is made when it begins")
    static void theOrderStaysWhenPricesFall() {
        StockLines x = threeCompanies();
        same("first", x.value(4), 0);
        x.operate(NONE, NONE, true);
        same("the price of 2 has fallen", x.company(2, 3), 40);
        same("to that of 1", x.company(1, 3), 40);
        same("second", x.value(4), 2);
        x.operate(NONE, NONE, true);
        same("third", x.value(4), 1);
    }

    // ---- stops

    @Says(in = TERMS, value = "can first get one stop more, once in its turn, for 60 of its cash (up to 5 stops)")
    static void aStopCosts60() {
        refused("cash of 59", STATE, () -> poorsTurn(2, 59), StockLines::extend);
        for (int stops = 2; stops <= 4; stops++) {
            StockLines x = poorsTurn(stops, 60);
            int balance = x.value(6);
            same("stops then", x.extend(), stops + 1);
            same("stops", x.company(0, 4), stops + 1);
            same("cash", x.company(0, 2), 0);
            same("the bank's", x.value(6) - balance, 60);
        }
    }

    @Says(in = TERMS, value = "(up to 5 stops)")
    static void fiveStopsAreTheMost() {
        refused("a sixth stop", STATE, () -> poorsTurn(5, 100), StockLines::extend);
        same("a fifth stop", poorsTurn(4, 100).extend(), 5);
    }

    @Says(in = TERMS, value = "once in its turn")
    static void onceInATurn() {
        refused("a second stop", STATE, () -> extended(), StockLines::extend);
        StockLines x = extended();
        x.operate(NONE, NONE, true);
        same("the next company", x.extend(), 3);
        alike("its second stop", thrown(x, StockLines::extend), STATE);
        x.operate(NONE, NONE, true);
        passes(x, 2);
        same("the next turn", x.extend(), 4);
        x.undo();
        same("behind an undo", x.extend(), 4);
        alike("again", thrown(x, StockLines::extend), STATE);
    }

    private static StockLines extended() {
        StockLines x = game(2);
        x.start(0, 0, 8);
        x.start(1, 0, 8);
        passes(x, 2);
        x.extend();
        return x;
    }

    // ---- tracks

    @Says(in = TERMS, value = "the level rises by 1, up to 2, for 20 times the new level of its cash")
    static void theFirstLevelCosts20() {
        refused("cash of 19", STATE, () -> poorsTurn(2, 19), x -> x.operate(0, 7, true));
        StockLines x = poorsTurn(2, 20);
        int balance = x.value(6);
        x.operate(7, 0, true);
        same("level", x.track(0, 7), 1);
        same("tracks", x.value(7), 7);
        same("cash", x.company(0, 2), 0);
        same("the track and the upkeep", x.value(6) - balance, 30);
        same("the president pays the upkeep", x.player(0, 0), 410);
    }

    @Says(in = TERMS, value = "the level rises by 1, up to 2, for 20 times the new level of its cash")
    static void theSecondLevelCosts40() {
        refused("cash of 39", STATE, () -> poorsTurn(2, 39), x -> x.operate(0, 6, true));
        StockLines x = poorsTurn(2, 40);
        int balance = x.value(6);
        same("income of a better track", x.operate(6, 0, false), 5);
        same("level", x.track(0, 6), 2);
        same("tracks", x.value(7), 6);
        same("cash", x.company(0, 2), 0);
        same("the track and the upkeep but the income", x.value(6) - balance, 45);
    }

    @Says(in = TERMS, value = "up to 2")
    static void thereIsNoThirdLevel() {
        refused("level 3", STATE, () -> betterTrack(), x -> x.operate(0, 1, true));
        refused("level 3, the other way", STATE, () -> betterTrack(), x -> x.operate(1, 0, false));
        accepted("another one", () -> betterTrack(), x -> x.operate(0, 2, true));
    }

    private static StockLines betterTrack() {
        StockLines x = game(2);
        x.start(0, 0, 8);
        round(x, 0, 1, false);
        round(x, 0, 1, false);
        passes(x, 2);
        return x;
    }

    @Says(in = TERMS, value = "one of both towns must be its home, or be joined with its home by tracks")
    static void aTrackMustTouchWhatIsJoined() {
        accepted("at the home", () -> network(3, 2), x -> x.operate(3, 7, true));
        accepted("at the home, the other way", () -> network(3, 2), x -> x.operate(7, 3, true));
        refused("elsewhere", STATE, () -> network(3, 2), x -> x.operate(4, 7, true));
        int[][] chain = {{3, 0}, {0, 7}, {7, 1}, {1, 6}, {6, 2}};
        for (int[] track : chain) {
            accepted("joined", () -> network(3, 2, chain), x -> x.operate(track[1], 4, true));
            accepted("joined, the other way", () -> network(3, 2, chain), x -> x.operate(5, track[1], true));
            accepted("a second level", () -> network(3, 2, chain), x -> x.operate(track[1], track[0], true));
        }
        accepted("between joined ones", () -> network(3, 2, chain), x -> x.operate(6, 0, true));
        refused("behind the chain", STATE, () -> network(3, 2, chain), x -> x.operate(4, 5, true));
    }

    @Says(in = TERMS, value = "or be joined with its home by tracks")
    static void tracksOfOthersJoinToo() {
        refused("the tracks of 1 do not touch those of 0", STATE, () -> two(7, 4), x -> x.operate(4, 5, true));
        refused("nor the other way", STATE, () -> two(7, 4), x -> x.operate(5, 7, true));
        refused("nor with themselves", STATE, () -> two(7, 4), x -> x.operate(7, 4, true));
        accepted("they do", () -> two(7, 1), x -> x.operate(7, 5, true));
        accepted("a better one of the other company", () -> two(7, 1), x -> x.operate(1, 7, true));
    }

    /** Company 0 has laid a track from 0 to 1, company 1 one between these towns; 0 is next. */
    private static StockLines two(int home, int other) {
        StockLines x = game(2);
        x.start(0, 0, 8);
        x.start(1, home, 8);
        passes(x, 2);
        x.operate(0, 1, false);
        x.operate(home, other, false);
        passes(x, 2);
        return x;
    }

    // ---- routes

    /** 2 players, stock phase; company 0, at that home and with so many stops, has laid these tracks. */
    private static StockLines built(int home, int stops, int[]... tracks) {
        StockLines x = game(2);
        x.start(0, home, 8);
        for (int turn = 0; turn < Math.max(stops - 2, tracks.length); turn++) {
            passes(x, 2);
            if (turn < stops - 2) {
                x.extend();
            }
            boolean lays = turn < tracks.length;
            x.operate(lays ? tracks[turn][0] : NONE, lays ? tracks[turn][1] : NONE, false);
        }
        same("stops", x.company(0, 4), stops);
        return x;
    }

    /** As built, but company 0 is next to operate. */
    private static StockLines network(int home, int stops, int[]... tracks) {
        StockLines x = built(home, stops, tracks);
        passes(x, 2);
        return x;
    }

    private static void incomeIs(StockLines x, int due) {
        same("income", x.company(0, 7), due);
        same("income of operating", x.operate(NONE, NONE, false), due);
        same("latest income", x.company(0, 8), due);
        x.undo();
    }

    @Says(in = TERMS, value = "A route is a row of 2 or more different towns")
    static void oneTownIsNoRoute() {
        StockLines x = network(0, 5);
        incomeIs(x, 0);
        routeIs(x, 0);
        StockLines two = network(0, 5, new int[][] {{0, 3}});
        incomeIs(two, 50);
        routeIs(two, 0, 0, 3);
    }

    @Says(in = TERMS, value = "different towns")
    static void noTownIsInARouteTwice() {
        StockLines x = network(1, 5, new int[][] {{1, 2}, {2, 3}, {3, 1}});
        incomeIs(x, 90);
        routeIs(x, 0, 1, 2, 3);
    }

    @Says(in = TERMS, value = "at most as many as it has stops")
    static void aRouteHasAtMostAsManyTownsAsStops() {
        int[][] chain = {{0, 1}, {1, 2}, {2, 3}, {3, 4}, {4, 5}, {5, 6}};
        int[] sums = {30, 60, 100, 110};
        for (int stops = 2; stops <= 5; stops++) {
            StockLines x = network(0, stops, chain);
            incomeIs(x, sums[stops - 2]);
            same("the last town", x.route(0, stops - 1), stops - 1);
            same("behind it", x.route(0, stops), NONE);
        }
    }

    @Says(in = TERMS, value = "with a track between each two that follow each other")
    static void townsOfARouteFollowEachOther() {
        StockLines x = network(0, 3, new int[][] {{0, 1}, {0, 2}, {0, 3}});
        incomeIs(x, 80);
        routeIs(x, 0, 2, 0, 3);
        StockLines leaf = network(1, 3, new int[][] {{1, 0}, {0, 2}, {0, 3}});
        incomeIs(leaf, 70);
        routeIs(leaf, 0, 1, 0, 3);
    }

    @Says(in = TERMS, value = "and with its home among them")
    static void theHomeStandsAnywhereInARoute() {
        int[][] up = {{0, 1}, {1, 2}, {2, 3}};
        int[][] down = {{2, 3}, {1, 2}, {0, 1}};
        int[] ofTwo = {30, 50, 70, 70};
        for (int home = 0; home < 4; home++) {
            int[][] tracks = home < 2 ? up : down;
            incomeIs(network(home, 2, tracks), ofTwo[home]);
            StockLines all = network(home, 4, tracks);
            incomeIs(all, 100);
            routeIs(all, 0, 0, 1, 2, 3);
        }
    }

    @Says(in = TERMS, value = "its income is the sum of the values of its towns, plus 5 for each of its tracks of level 2")
    static void betterTracksOfTheRouteCount5Each() {
        StockLines none = network(0, 3, new int[][] {{0, 1}, {1, 2}});
        incomeIs(none, 60);
        StockLines one = network(0, 3, new int[][] {{0, 1}, {1, 2}, {1, 2}});
        incomeIs(one, 65);
        StockLines two = network(0, 3, new int[][] {{0, 1}, {1, 2}, {1, 2}, {0, 1}});
        incomeIs(two, 70);
        StockLines beside = network(0, 3, new int[][] {{0, 1}, {1, 2}, {1, 3}, {1, 3}});
        beside.setTown(3, 0);
        incomeIs(beside, 60);
        StockLines ring = network(0, 3, new int[][] {{0, 1}, {1, 2}, {2, 0}, {2, 0}});
        incomeIs(ring, 65);
        routeIs(ring, 0, 0, 2, 1);
    }

    @Says(in = TERMS, value = "The best route has the greatest income; of several the first one")
    static void oneMoreIsBetterThanFirst() {
        StockLines x = network(3, 2, new int[][] {{3, 2}, {3, 6}});
        routeIs(x, 0, 2, 3);
        x.setTown(6, 31);
        routeIs(x, 0, 3, 6);
        x.setTown(2, 31);
        routeIs(x, 0, 2, 3);
    }

    @Says(in = TERMS, value = "where routes are compared town by town, a lower town before a higher one")
    static void ofLikeIncomesTheLowerTownIsFirst() {
        StockLines ends = network(5, 2, new int[][] {{5, 6}});
        routeIs(ends, 0, 5, 6);
        StockLines x = network(4, 3, new int[][] {{4, 3}, {4, 5}, {3, 2}, {5, 2}});
        towns(x, 1, 1, 1, 1, 1, 1, 1, 1);
        routeIs(x, 0, 2, 3, 4);
        x.setTown(2, 0);
        routeIs(x, 0, 3, 4, 5);
        x.setTown(2, 1);
        x.setTown(3, 0);
        routeIs(x, 0, 2, 5, 4);
    }

    @Says(in = TERMS, value = "and a shorter route before a longer one that begins with it")
    static void ofLikeIncomesTheShorterBeginningIsFirst() {
        int[][] chain = {{0, 1}, {1, 2}, {2, 3}, {3, 4}};
        StockLines x = network(0, 5, chain);
        int[] values = {10, 20, 30, 40, 10};
        for (int towns = 4; towns >= 2; towns--) {
            x.setTown(towns, 0);
            int[] due = {0, 1, 2, 3};
            routeIs(x, 0, Arrays.copyOf(due, towns));
            values[towns] = 0;
            incomeIs(x, Arrays.stream(values).sum());
        }
        worthless(x);
        routeIs(x, 0, 0, 1);
    }

    @Says(in = TERMS, value = "a lower town before a higher one, and a shorter route before a longer one that begins"
            + " with it")
    static void aLongerRouteWithALowerTownIsFirst() {
        StockLines x = network(3, 3, new int[][] {{3, 4}, {3, 0}});
        x.setTown(0, 0);
        routeIs(x, 0, 0, 3, 4);
        x.setTown(0, 10);
        x.setTown(4, 0);
        routeIs(x, 0, 0, 3);
    }

    @Says(in = TERMS, value = "Without a route the income is 0; it may be 0 with one.")
    static void anIncomeOf0WithARouteAndWithout() {
        StockLines without = network(0, 2);
        incomeIs(without, 0);
        routeIs(without, 0);
        StockLines with = network(0, 2, new int[][] {{0, 1}});
        worthless(with);
        incomeIs(with, 0);
        routeIs(with, 0, 0, 1);
        with.setTown(1, 1);
        incomeIs(with, 1);
    }

    // ---- dividends

    @Says(in = TERMS, value = "each player gets income / 10 for each share from the bank")
    static void dividendsAreRoundedDownForEachShare() {
        int[] incomes = {0, 1, 9, 10, 11, 19, 20, 99, 100, 180};
        for (int income : incomes) {
            StockLines x = network(0, 2, new int[][] {{0, 1}});
            x.setTown(0, income / 2);
            x.setTown(1, income - income / 2);
            int cash = x.player(0, 0);
            int balance = x.value(6);
            same("income", x.operate(NONE, NONE, true), income);
            same("two shares of " + income, x.player(0, 0) - cash, income / 10 * 2);
            same("no share", x.player(1, 0), 500);
            same("the bank's, with the upkeep", x.value(6) - balance, 10 - income / 10 * 2);
        }
    }

    /** Company 0 has that price, would have that income, and is next to operate. */
    private static StockLines priced(int price, int income) {
        StockLines x = built(0, 2, new int[][] {{0, 1}});
        worthless(x);
        while (x.company(0, 3) != price) {
            x.setTown(0, x.company(0, 3) < price ? 1 : 0);
            round(x, NONE, NONE, true);
        }
        passes(x, 2);
        x.setTown(0, income);
        return x;
    }

    private static void priceThen(int price, int income, boolean pays, int due) {
        StockLines x = priced(price, income);
        same("income", x.operate(NONE, NONE, pays), income);
        same("price behind " + price + " with " + income, x.company(0, 3), due);
    }

    @Says(in = TERMS, value = "and the step rises by 1, up to 11, if the income is above 0")
    static void thePriceRisesTo130() {
        priceThen(90, 1, true, 100);
        priceThen(110, 1, true, 120);
        priceThen(120, 90, true, 130);
        priceThen(130, 1, true, 130);
        priceThen(20, 1, true, 30);
    }

    @Says(in = TERMS, value = "otherwise it falls by 1, not below 0")
    static void thePriceFallsWithoutIncome() {
        priceThen(130, 0, true, 120);
        priceThen(30, 0, true, 20);
        priceThen(20, 0, true, 20);
    }

    @Says(in = TERMS, value = "If it keeps the income: that is added to its cash from the bank, and the step falls by"
            + " 1, not below 0.")
    static void thePriceFallsWhenTheIncomeIsKept() {
        priceThen(130, 90, false, 120);
        priceThen(90, 0, false, 80);
        priceThen(30, 90, false, 20);
        priceThen(20, 90, false, 20);
        StockLines x = priced(80, 77);
        int cash = x.company(0, 2);
        int balance = x.value(6);
        x.operate(NONE, NONE, false);
        same("cash", x.company(0, 2) - cash, 77 - 10);
        same("the bank's", x.value(6) - balance, 10 - 77);
    }

    // ---- upkeep

    @Says(in = TERMS, value = "Upkeep: it pays 5 for each of its stops to the bank.")
    static void upkeepIs5ForEachStop() {
        for (int stops = 2; stops <= 5; stops++) {
            for (int more = 0; more <= 1; more++) {
                StockLines x = poorsTurn(stops, 5 * stops + more);
                int balance = x.value(6);
                x.operate(NONE, NONE, true);
                same("cash", x.company(0, 2), more);
                same("the bank's", x.value(6) - balance, 5 * stops);
                same("the president pays nothing", x.player(0, 0), 420);
                same("open", x.company(0, 0), 1);
            }
        }
    }

    @Says(in = TERMS, value = "If it has not so much cash, it pays what it has, and its president as the upkeep begins"
            + " (whoever is it by then) pays the rest")
    static void thePresidentPaysTheRest() {
        for (int stops = 2; stops <= 5; stops++) {
            int[] rests = {1, 5 * stops - 1, 5 * stops};
            for (int rest : rests) {
                StockLines x = poorsTurn(stops, 5 * stops - rest);
                int balance = x.value(6);
                x.operate(NONE, NONE, true);
                same("cash", x.company(0, 2), 0);
                same("the president pays", x.player(0, 0), 420 - rest);
                same("no share is sold", x.player(0, 1), 2);
                same("the bank's", x.value(6) - balance, 5 * stops);
                same("open", x.company(0, 0), 1);
            }
        }
    }

    @Says(in = TERMS, value = "the rest")
    static void theKeptIncomePaysUpkeepToo() {
        for (int income = 9; income <= 10; income++) {
            StockLines x = poorsTurn(2, 0);
            x.setTown(6, income);
            x.operate(NONE, NONE, false);
            same("with an income of " + income, x.player(0, 0), 410 + income);
        }
    }

    @Says(in = TERMS, value = "its president as the upkeep begins (whoever is it by then)")
    static void aNewPresidentPays() {
        StockLines x = poor(2, 0);
        for (int i = 0; i < 3; i++) {
            x.buy(0);
            x.pass();
        }
        passes(x, 1);
        same("another president", x.company(0, 5), 1);
        x.operate(NONE, NONE, true);
        same("three shares at 20 and the upkeep", x.player(1, 0), 500 - 60 - 10);
        same("the president of before", x.player(0, 0), 420);
    }

    /** 2 players; company 0 has no cash and is next; its president has two shares at 20, and just that cash. */
    private static StockLines indebted(int stops, int cash) {
        StockLines x = poor(stops, 0);
        x.pass();
        x.start(1, 7, 8);
        x.pass();
        x.start(2, 7, 8);
        presidentPaysDownTo(x, cash);
        passes(x, 2);
        x.operate(NONE, NONE, true);
        x.operate(NONE, NONE, true);
        same("next company", x.value(4), 0);
        same("cash of the president", x.player(0, 0), cash);
        return x;
    }

    /** What player 0 has when company 0, next in this game, has operated. */
    private static void behindUpkeep(StockLines x, int cash, int of0, int of1, int of2) {
        x.operate(NONE, NONE, true);
        int[] due = {cash, of0, of1, of2};
        for (int what = 0; what < due.length; what++) {
            same("player 0, what " + what, x.player(0, what), due[what]);
        }
        same("nothing is closed", x.value(9), 0);
    }

    @Says(in = TERMS, value = "if this player has not so much cash, the player sells shares, one after the other")
    static void oneLessThanTheRestSellsAShare() {
        behindUpkeep(indebted(2, 11), 1, 2, 2, 2);
        behindUpkeep(indebted(2, 10), 0, 2, 2, 2);
        behindUpkeep(indebted(2, 9), 19, 1, 2, 2);
        behindUpkeep(indebted(2, 0), 10, 1, 2, 2);
    }

    @Says(in = TERMS, value = "until there is enough cash")
    static void salesEndWithEnoughCash() {
        behindUpkeep(indebted(5, 6), 1, 1, 2, 2);
        behindUpkeep(indebted(5, 5), 0, 1, 2, 2);
        behindUpkeep(indebted(5, 4), 19, 0, 2, 2);
    }

    @Says(in = TERMS, value = "Upkeep")
    static void dividendsPayUpkeepToo() {
        StockLines nine = indebted(2, 8);
        nine.setTown(6, 9);
        behindUpkeep(nine, 8 + 30 - 10, 1, 2, 2);
        StockLines ten = indebted(2, 8);
        ten.setTown(6, 10);
        behindUpkeep(ten, 0, 2, 2, 2);
    }

    @Says(in = TERMS, value = "each time of the open company (the operating one, too) with the lowest price of which the"
            + " player holds some")
    static void sharesOfTheLowestPriceAreSold() {
        StockLines x = dear();
        int[] bought = {2, 2, 2, 2, 1};
        x.pass();
        x.start(1, 7, 2);
        x.pass();
        x.start(2, 7, 3);
        for (int company : bought) {
            x.pass();
            x.buy(company);
        }
        passes(x, 2);
        same("cash", x.player(0, 0), 0);
        behindUpkeep(x, 30, 2, 2, 6);
        same("its price falls", x.company(1, 3), 30);
        same("another one's does not", x.company(2, 3), 50);
        same("nor the operating one's", x.company(0, 3), 110);
    }

    @Says(in = TERMS, value = "of which the player holds some")
    static void aLowerPriceOfOthersDoesNotMatter() {
        StockLines x = threeCompanies();
        behindUpkeep(x, 40, 3, 0, 5);
        same("price", x.company(2, 3), 40);
        same("of the other player", x.player(1, 2), 2);
    }

    @Says(in = TERMS, value = "of several the lowest number")
    static void ofLikePricesTheLowestNumberIsSold() {
        StockLines x = dear();
        x.pass();
        x.start(1, 7, 4);
        x.pass();
        x.start(2, 7, 4);
        for (int i = 0; i < 3; i++) {
            x.pass();
            x.buy(2);
        }
        passes(x, 2);
        behindUpkeep(x, 50, 2, 1, 5);
        same("price", x.company(1, 3), 50);
        same("price", x.company(2, 3), 60);
    }

    @Says(in = TERMS, value = "(the operating one, too)")
    static void theOperatingCompanysSharesAreSoldToo() {
        StockLines x = indebted(2, 9);
        int balance = x.value(6);
        behindUpkeep(x, 19, 1, 2, 2);
        same("the bank's", x.company(0, 6), 9);
        same("balance", x.value(6) - balance, -20 + 10);
    }

    @Says(in = TERMS, value = "one after the other, each time of the open company")
    static void theNextShareIsOfAnotherCompany() {
        StockLines x = poor(5, 0);
        x.pass();
        x.sell(0, 1);
        x.start(1, 7, 8);
        x.pass();
        x.start(2, 7, 8);
        presidentPaysDownTo(x, 4);
        passes(x, 2);
        x.operate(NONE, NONE, true);
        x.operate(NONE, NONE, true);
        int price = x.company(1, 3);
        behindUpkeep(x, 4 + 20 + price - 25, 0, 1, 2);
        same("price of 1", x.company(1, 3), price - 10);
        same("price of 2", x.company(2, 3), price);
    }

    @Says(in = TERMS, value = "(each time the step of that company falls by 1, not below 0)")
    static void aForcedSaleLowersThePriceToNotBelow20() {
        StockLines x = indebted(5, 4);
        x.operate(NONE, NONE, true);
        same("price", x.company(0, 3), 20);
        StockLines y = threeCompanies();
        int price = y.company(2, 3);
        y.operate(NONE, NONE, true);
        same("price", y.company(2, 3), price - 10);
    }

    @Says(in = TERMS, value = "its president as the upkeep begins")
    static void aPresidentWhoSellsGoesOnPaying() {
        StockLines x = rivals(4);
        int second = x.player(1, 0);
        behindUpkeep(x, 4 + 20 + 20 - 25, 0, 0, 0);
        same("the new president pays nothing", x.player(1, 0), second);
        same("the new president", x.company(0, 5), 1);
        same("shares", x.player(1, 1), 2);
    }

    /** Company 0 has 5 stops and no cash and is next; its president (player 0, with that cash) and player 1 hold 2. */
    private static StockLines rivals(int cash) {
        StockLines x = poor(5, 0);
        x.buy(0);
        x.pass();
        x.buy(0);
        presidentPaysDownTo(x, cash);
        passes(x, 2);
        same("president", x.company(0, 5), 0);
        same("cash", x.player(0, 0), cash);
        return x;
    }

    /** Company 0 has 5 stops, no cash, and is next; its president has that cash, and one share at 20 as the only one. */
    private static StockLines lastShare(int cash, boolean rival) {
        StockLines x = poor(5, 0);
        if (rival) {
            x.buy(0);
        } else {
            x.pass();
        }
        x.sell(0, 1);
        passes(x, rival ? 2 : 1);
        x.operate(NONE, NONE, true);
        presidentPaysDownTo(x, cash);
        passes(x, 2);
        same("cash", x.player(0, 0), cash);
        same("president", x.company(0, 5), 0);
        same("share of player 1", x.player(1, 1), rival ? 1 : 0);
        return x;
    }

    @Says(in = TERMS, value = "or no share is left. The player pays what there is, up to the rest.")
    static void theLastShareIsJustEnough() {
        behindUpkeep(lastShare(25, false), 0, 1, 0, 0);
        behindUpkeep(lastShare(24, false), 24 + 20 - 25, 0, 0, 0);
        StockLines x = lastShare(5, false);
        int balance = x.value(6);
        behindUpkeep(x, 0, 0, 0, 0);
        same("balance", x.value(6) - balance, -20 + 25);
        same("open, as all is paid", x.company(0, 0), 1);
        same("no president", x.company(0, 5), NONE);
    }

    @Says(in = TERMS, value = "If that is not all, or there is no president, the company is not open any more: its cash"
            + " goes to the bank, its shares are gone.")
    static void theLastShareIsOneShort() {
        for (int cash = 0; cash <= 4; cash += 4) {
            StockLines x = lastShare(cash, true);
            int balance = x.value(6);
            int second = x.player(1, 0);
            x.operate(NONE, NONE, true);
            same("the player has paid what there was", x.player(0, 0), 0);
            same("balance", x.value(6) - balance, -20 + cash + 20);
            same("not open", x.company(0, 0), 0);
            same("closed for want of money", x.value(9), 1);
            same("the share of the other player is gone", x.player(1, 1), 0);
            same("who gets nothing for it", x.player(1, 0), second);
            same("and whose worth is the cash alone", x.player(1, 5), second);
            same("and has no presidency", x.player(1, 6), 0);
            same("tracks stay", x.value(7), 6);
        }
    }

    @Says(in = TERMS, value = "or there is no president, the company is not open any more: its cash goes to the bank")
    static void withoutAPresidentOneLessThanUpkeepCloses() {
        for (int stops = 2; stops <= 5; stops += 3) {
            int[] cash = {5 * stops - 1, 0};
            for (int left : cash) {
                StockLines x = poorSold(stops, left, 2);
                int balance = x.value(6);
                x.operate(NONE, NONE, true);
                same("not open", x.company(0, 0), 0);
                same("its cash goes to the bank", x.value(6) - balance, left);
                same("closed for want of money", x.value(9), 1);
                for (int what = 1; what <= 8; what++) {
                    same("what " + what, x.company(0, what), NONE);
                }
            }
            StockLines enough = poorSold(stops, 5 * stops, 2);
            enough.operate(NONE, NONE, true);
            same("open with enough cash", enough.company(0, 0), 1);
            same("nothing is closed", enough.value(9), 0);
        }
    }

    // ---- end of the phase

    @Says(in = TERMS, value = "When no company of the order is left, the stock phase begins again, with the player whose"
            + " turn comes next, and nobody has passed.")
    static void behindTheLastCompanyIsTheStockPhase() {
        for (int players = 2; players <= 4; players++) {
            StockLines x = game(players);
            x.start(0, 0, 2);
            x.start(1, 0, 2);
            passes(x, players);
            x.operate(NONE, NONE, true);
            same("one is left", x.value(3), 1);
            same("all have passed", x.value(2), players);
            same("phases", x.value(5), 0);
            x.operate(NONE, NONE, true);
            same("none is left", x.value(3), 0);
            same("nobody has passed", x.value(2), 0);
            same("phases", x.value(5), 1);
            same("turn", x.value(1), 2 % players);
            same("next company", x.value(4), NONE);
        }
    }

    @Says(in = TERMS, value = "The next company of the order that is still open")
    static void behindAClosedCompanyTheNextOneOperates() {
        StockLines x = dear();
        x.start(1, 7, 2);
        x.sell(0, 2);
        passes(x, 2);
        same("the dear one is first", x.value(4), 0);
        x.operate(NONE, NONE, true);
        same("it is closed", x.company(0, 0), 0);
        same("the other one is next", x.value(4), 1);
        same("phases", x.value(5), 8);
        x.operate(NONE, NONE, true);
        same("phases", x.value(5), 9);
        passes(x, 2);
        same("it alone is in the next order", x.value(4), 1);
        x.operate(NONE, NONE, true);
        same("stock phase", x.value(3), 0);
    }

    @Says(in = TERMS, value = "When no company of the order is left, the stock phase begins again")
    static void behindTheOnlyCompanysClosingIsTheStockPhase() {
        StockLines x = poorSold(2, 9, 2);
        int phases = x.value(5);
        x.operate(NONE, NONE, true);
        same("stock phase", x.value(3), 0);
        same("phases", x.value(5), phases + 1);
        same("open companies", x.value(8), 0);
        same("nobody has passed", x.value(2), 0);
    }
}
