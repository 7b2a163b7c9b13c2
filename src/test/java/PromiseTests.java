/** One method for each promise: ordinary inputs, the edges that the document names, and wrong inputs. */
public final class PromiseTests extends Check {
    private static void promise1NewObject() {
        StockLines x = new StockLines();
        int[] due = {3, 0, 0, 0, NONE, 0, 0, 0, 0, 0};
        for (int what = 0; what < due.length; what++) {
            same("value " + what, x.value(what), due[what]);
        }
        for (int player = 0; player < 3; player++) {
            same("cash", x.player(player, 0), 500);
        }
        for (int town = 0; town < 8; town++) {
            same("town", x.town(town), 10 + 10 * (town % 4));
            for (int other = 0; other < 8; other++) {
                same("track", x.track(town, other), 0);
            }
        }
        same("text", x.clearText(), 0);
        fails("undo", STATE, x, StockLines::undo);
        same("NONE", StockLines.NONE, -1);
    }

    private static void promise2Begin() {
        StockLines x = new StockLines();
        fails("begin(1)", ARGUMENT, x, y -> y.begin(1));
        fails("begin(5)", ARGUMENT, x, y -> y.begin(5));
        x.setTown(5, 77);
        x.append('p');
        x.start(0, 0, 8);
        passes(x, 3);
        x.operate(0, 1, true);
        passes(x, 3);
        same("phases of the game before", x.begin(4), 1);
        int[] due = {4, 0, 0, 0, NONE, 0, 0, 0, 0, 0};
        for (int what = 0; what < due.length; what++) {
            same("value " + what, x.value(what), due[what]);
        }
        for (int player = 0; player < 4; player++) {
            same("cash", x.player(player, 0), 500);
            same("shares", x.player(player, 1), 0);
            same("presidencies", x.player(player, 6), 0);
        }
        same("open", x.company(0, 0), 0);
        same("track", x.track(0, 1), 0);
        same("town stays", x.town(5), 77);
        same("states are kept", x.undo(), 3);
        same("players again", x.value(0), 3);
        same("operating again", x.value(3), 1);
        same("text stays", x.clearText(), 1);
        same("begin(2)", x.begin(2), 1);
        fails("player 2 of 2", INDEX, x, y -> y.player(2, 0));
        passes(x, 2);
        same("phases with 2 players", x.value(5), 1);
    }

    private static void promise3SetTown() {
        StockLines x = new StockLines();
        fails("town -1", INDEX, x, y -> y.setTown(-1, 91));
        fails("town 8", INDEX, x, y -> y.setTown(8, -1));
        fails("value -1", ARGUMENT, x, y -> y.setTown(0, -1));
        fails("value 91", ARGUMENT, x, y -> y.setTown(7, 91));
        same("before", x.setTown(7, 90), 40);
        same("before", x.setTown(7, 0), 90);
        same("now", x.town(7), 0);
        same("undo", x.undo(), 1);
        same("again", x.town(7), 90);
        StockLines y = operating();
        same("in the operating phase", y.setTown(0, 0), 10);
        same("undoable without a change", y.setTown(0, 0), 0);
        same("undo", y.undo(), 3);
    }

    private static void promise4Start() {
        StockLines x = new StockLines();
        fails("company -1", INDEX, x, y -> y.start(-1, 0, 1));
        fails("company 4", INDEX, x, y -> y.start(4, 0, 2));
        fails("home -1", INDEX, x, y -> y.start(0, -1, 2));
        fails("home 8", INDEX, x, y -> y.start(0, 8, 9));
        fails("step 1", ARGUMENT, x, y -> y.start(0, 0, 1));
        fails("step 9", ARGUMENT, x, y -> y.start(3, 7, 9));
        same("company's cash", x.start(0, 7, 8), 500);
        same("player's cash", x.player(0, 0), 300);
        same("shares", x.player(0, 1), 2);
        same("president", x.company(0, 5), 0);
        same("home", x.company(0, 1), 7);
        same("stops", x.company(0, 4), 2);
        same("bank", x.value(6), 200 - 500);
        same("turn", x.value(1), 1);
        fails("open", STATE, x, y -> y.start(0, 0, 2));
        fails("step before open", ARGUMENT, x, y -> y.start(0, 0, 9));
        x.pass();
        same("least step", x.start(1, 7, 2), 200);
        same("passes are forgotten", x.value(2), 0);
        same("undo", x.undo(), 2);
        same("not open again", x.company(1, 0), 0);
        same("passes again", x.value(2), 1);
        fails("operating phase", STATE, operating(), y -> y.start(1, 1, 2));
        StockLines poor = new StockLines();
        poor.begin(2);
        poor.start(0, 0, 8);
        poor.pass();
        poor.start(1, 0, 8);
        poor.pass();
        poor.buy(0);
        poor.pass();
        same("cash left", poor.player(0, 0), 0);
        fails("no cash", STATE, poor, y -> y.start(2, 0, 2));
        poor.sell(0, 1);
        fails("cash of 100 for 120", STATE, poor, y -> y.start(2, 0, 4));
        same("cash of 100 for 100", poor.start(2, 0, 3), 250);
        same("nothing left", poor.player(0, 0), 0);
    }

    private static void promise5Buy() {
        StockLines x = new StockLines();
        fails("company -1", INDEX, x, y -> y.buy(-1));
        fails("company 4", INDEX, x, y -> y.buy(4));
        fails("not open", STATE, x, y -> y.buy(0));
        x.begin(2);
        x.start(0, 0, 2);
        same("first share", x.buy(0), 1);
        same("cash", x.player(1, 0), 460);
        same("bank", x.value(6), 80 + 40 - 200);
        same("third", x.buy(0), 3);
        same("second", x.buy(0), 2);
        same("fourth", x.buy(0), 4);
        same("third of the other", x.buy(0), 3);
        same("fifth", x.buy(0), 5);
        same("undo", x.undo(), 3);
        same("four again", x.player(0, 1), 4);
        x.buy(0);
        same("fourth of the other", x.buy(0), 4);
        same("bank's", x.company(0, 6), 1);
        x.pass();
        same("last share", x.buy(0), 5);
        fails("bank has none", STATE, x, y -> y.buy(0));
        StockLines six = new StockLines();
        six.begin(2);
        six.start(0, 0, 2);
        for (int held = 3; held <= 6; held++) {
            six.pass();
            same("passed", six.value(2), 1);
            same("up to six", six.buy(0), held);
            same("nobody has passed", six.value(2), 0);
        }
        six.pass();
        fails("holds six", STATE, six, y -> y.buy(0));
        fails("operating phase", STATE, operating(), y -> y.buy(0));
        StockLines poor = new StockLines();
        poor.begin(2);
        poor.start(0, 0, 8);
        for (int i = 0; i < 3; i++) {
            poor.pass();
            poor.buy(0);
        }
        poor.pass();
        same("cash", poor.player(0, 0), 0);
        fails("no cash", STATE, poor, y -> y.buy(0));
    }

    private static void promise6Sell() {
        StockLines x = new StockLines();
        fails("company -1", INDEX, x, y -> y.sell(-1, 0));
        fails("company 4", INDEX, x, y -> y.sell(4, 11));
        fails("no shares", ARGUMENT, x, y -> y.sell(0, 0));
        fails("11 shares", ARGUMENT, x, y -> y.sell(0, 11));
        fails("not open", STATE, x, y -> y.sell(0, 1));
        x.begin(2);
        x.start(0, 0, 2);
        fails("holds none", STATE, x, y -> y.sell(0, 1));
        x.pass();
        fails("holds fewer", STATE, x, y -> y.sell(0, 3));
        fails("holds fewer than 10", STATE, x, y -> y.sell(0, 10));
        same("both at the old price", x.sell(0, 2), 500);
        same("the step falls once", x.company(0, 3), 30);
        same("no president", x.company(0, 5), NONE);
        same("the turn goes on", x.value(1), 0);
        same("sold to the bank", x.company(0, 6), 10);
        same("selling does not matter for passes", x.value(2), 1);
        same("the phase begins", x.pass(), 1);
        fails("operating phase", STATE, operating(), y -> y.sell(0, 1));
        StockLines low = new StockLines();
        low.begin(2);
        low.start(0, 0, 2);
        low.pass();
        low.buy(0);
        low.pass();
        same("at 40", low.sell(0, 1), 420);
        same("at 30", low.sell(0, 1), 450);
        same("at 20", low.sell(0, 1), 470);
        same("not below 20", low.company(0, 3), 20);
        same("undo", low.undo(), 3);
        same("share is back", low.player(0, 1), 1);
        same("cash is back", low.player(0, 0), 450);
        presidents();
    }

    private static void presidents() {
        StockLines x = new StockLines();
        x.start(0, 0, 2);
        x.buy(0);
        x.buy(0);
        x.pass();
        x.buy(0);
        same("of like ones the president of before", x.company(0, 5), 0);
        x.buy(0);
        x.sell(0, 1);
        same("of like others the lowest number", x.company(0, 5), 1);
        x.buy(0);
        same("the president of before stays", x.company(0, 5), 1);
        same("set of player 1", x.player(1, 6), 1);
        same("set of player 0", x.player(0, 6), 0);
        x.sell(0, 2);
        same("who holds the most", x.company(0, 5), 0);
        x.pass();
        x.buy(0);
        same("more than the president", x.company(0, 5), 2);
        StockLines none = new StockLines();
        none.begin(2);
        none.start(0, 0, 2);
        none.pass();
        none.sell(0, 2);
        none.start(1, 0, 2);
        none.buy(0);
        same("one share is enough where nobody holds any", none.company(0, 5), 1);
    }

    /** Player 0 is the president of 0 (price 100) and of 1 (price 40); player 1 holds three of 1. */
    private static StockLines mergeable() {
        StockLines x = new StockLines();
        x.begin(2);
        x.start(0, 0, 8);
        x.pass();
        x.start(1, 5, 2);
        for (int i = 0; i < 3; i++) {
            x.buy(1);
            x.buy(1);
        }
        return x;
    }

    private static void promise7Merge() {
        StockLines x = mergeable();
        fails("into -1", INDEX, x, y -> y.merge(-1, 0));
        fails("from 4", INDEX, x, y -> y.merge(0, 4));
        fails("both out of range and the same", INDEX, x, y -> y.merge(4, 4));
        fails("the same", ARGUMENT, x, y -> y.merge(1, 1));
        fails("not the president", STATE, x, y -> y.merge(0, 1));
        x.pass();
        fails("from is not open", STATE, x, y -> y.merge(0, 2));
        fails("into is not open", STATE, x, y -> y.merge(2, 0));
        int bank = x.value(6);
        int first = x.player(0, 0);
        int second = x.player(1, 0);
        same("cash of both", x.merge(0, 1), 700);
        same("two for five", x.player(0, 1), 4);
        same("one for three", x.player(1, 1), 1);
        same("half a price", x.player(0, 0), first + 20);
        same("half a price", x.player(1, 0), second + 20);
        same("bank", x.value(6), bank - 40);
        same("not open", x.company(1, 0), 0);
        same("shares are gone", x.player(0, 2), 0);
        same("not closed for want of money", x.value(9), 0);
        same("open companies", x.value(8), 1);
        same("step stays", x.company(0, 3), 100);
        same("turn", x.value(1), 1);
        same("passes", x.value(2), 0);
        same("undo", x.undo(), 3);
        same("open again", x.company(1, 0), 1);
        same("the other way", x.merge(1, 0), 700);
        same("one for two", x.player(0, 2), 6);
        same("a company starts anew", x.pass(), 0);
        same("start", x.start(0, 1, 2), 200);
        fails("operating phase", STATE, operating(), y -> y.merge(0, 1));
        mergeEdges();
    }

    private static void mergeEdges() {
        StockLines full = new StockLines();
        full.begin(2);
        full.start(0, 0, 2);
        full.pass();
        full.start(1, 0, 2);
        for (int i = 0; i < 3; i++) {
            full.buy(0);
            full.buy(0);
        }
        full.buy(0);
        same("bank's shares", full.company(0, 6), 1);
        same("one is enough", full.merge(0, 1), 400);
        same("no share is left", full.company(0, 6), 0);
        StockLines x = new StockLines();
        x.begin(2);
        x.start(0, 0, 2);
        x.pass();
        x.start(1, 0, 2);
        for (int i = 0; i < 4; i++) {
            x.buy(0);
            x.buy(0);
        }
        same("bank has none", x.company(0, 6), 0);
        x.pass();
        same("president of both", x.player(0, 6), 3);
        fails("bank has not enough", STATE, x, y -> y.merge(0, 1));
        x.sell(1, 1);
        int cash = x.player(0, 0);
        same("no share is needed", x.merge(0, 1), 400);
        same("half of 30", x.player(0, 0), cash + 15);
        mergePresidents();
    }

    private static void mergePresidents() {
        StockLines x = new StockLines();
        x.begin(2);
        x.pass();
        x.start(2, 0, 2);
        x.buy(2);
        x.start(3, 0, 2);
        x.buy(2);
        x.buy(2);
        x.buy(2);
        x.pass();
        x.buy(3);
        x.pass();
        x.buy(3);
        same("like ones of 2", x.player(0, 3) - x.player(1, 3), 0);
        same("like ones of 3", x.player(0, 4) - x.player(1, 4), 0);
        same("president of both", x.player(1, 6), 12);
        x.merge(2, 3);
        same("still like ones", x.player(0, 3), 4);
        same("found anew once, behind all", x.company(2, 5), 1);
        StockLines y = new StockLines();
        y.begin(2);
        y.start(0, 0, 2);
        y.pass();
        y.start(1, 0, 2);
        for (int i = 0; i < 4; i++) {
            y.pass();
            y.buy(0);
        }
        for (int i = 0; i < 3; i++) {
            y.pass();
            y.buy(1);
        }
        y.pass();
        same("more than six", y.merge(0, 1), 400);
        same("more than six", y.player(0, 1), 8);
        y.pass();
        fails("no more to buy", STATE, y, z -> z.buy(0));
        same("all can be sold", y.sell(0, 8), 60 + 20 + 8 * 40);
        StockLines z = new StockLines();
        z.begin(4);
        passes(z, 3);
        z.start(0, 0, 2);
        z.buy(0);
        passes(z, 2);
        z.start(1, 0, 2);
        passes(z, 3);
        same("four players", z.merge(0, 1), 400);
        same("player 3", z.player(3, 1), 3);
        same("player 0", z.player(0, 1), 1);
    }

    private static void promise8Pass() {
        StockLines x = new StockLines();
        same("pass", x.pass(), 0);
        same("turn", x.value(1), 1);
        same("passed", x.value(2), 1);
        same("pass", x.pass(), 0);
        same("no company is open", x.pass(), 0);
        same("a phase is over", x.value(5), 1);
        same("nobody has passed", x.value(2), 0);
        same("stock phase", x.value(3), 0);
        same("undo", x.undo(), 2);
        same("two have passed", x.value(2), 2);
        x.start(0, 0, 2);
        passes(x, 2);
        x.buy(0);
        passes(x, 2);
        same("the phase begins", x.pass(), 1);
        same("operating", x.value(3), 1);
        same("passed stays", x.value(2), 3);
        same("who comes next", x.value(1), 0);
        fails("operating phase", STATE, x, StockLines::pass);
        x.operate(NONE, NONE, true);
        same("stock phase", x.value(3), 0);
        same("nobody has passed", x.value(2), 0);
        same("the player who comes next", x.value(1), 0);
    }

    private static void promise9Extend() {
        StockLines x = new StockLines();
        fails("stock phase", STATE, x, StockLines::extend);
        x.start(0, 0, 8);
        passes(x, 3);
        int bank = x.value(6);
        same("stops", x.extend(), 3);
        same("cash", x.company(0, 2), 440);
        same("bank", x.value(6), bank + 60);
        fails("once in its turn", STATE, x, StockLines::extend);
        same("undo", x.undo(), 3);
        same("again", x.extend(), 3);
        x.operate(NONE, NONE, false);
        for (int stops = 4; stops <= 5; stops++) {
            passes(x, 3);
            same("stops", x.extend(), stops);
            x.operate(NONE, NONE, false);
        }
        passes(x, 3);
        fails("five stops", STATE, x, StockLines::extend);
        StockLines poor = new StockLines();
        poor.begin(2);
        poor.start(0, 0, 2);
        int[][] tracks = {{0, 1}, {0, 1}, {0, 2}, {0, 3}};
        int[] cash = {170, 120, 90, 60};
        for (int i = 0; i < tracks.length; i++) {
            passes(poor, 2);
            poor.operate(tracks[i][0], tracks[i][1], true);
            same("cash", poor.company(0, 2), cash[i]);
        }
        passes(poor, 2);
        same("60 is enough", poor.extend(), 3);
        same("nothing left", poor.company(0, 2), 0);
        poor.undo();
        poor.operate(NONE, NONE, true);
        passes(poor, 2);
        fails("50 is not", STATE, poor, StockLines::extend);
    }

    private static void promise10Operate() {
        StockLines x = new StockLines();
        fails("town 8", INDEX, x, y -> y.operate(8, 8, true));
        fails("town -2", INDEX, x, y -> y.operate(-2, -2, true));
        fails("one NONE", INDEX, x, y -> y.operate(NONE, 0, true));
        fails("other NONE", INDEX, x, y -> y.operate(0, NONE, true));
        fails("the same", ARGUMENT, x, y -> y.operate(3, 3, true));
        fails("stock phase", STATE, x, y -> y.operate(NONE, NONE, true));
        fails("stock phase", STATE, x, y -> y.operate(0, 1, true));
        tracksLaid();
        dividends();
        companyOrder();
        upkeep();
        presidentPays();
        noPresident();
    }

    private static void tracksLaid() {
        StockLines x = operating();
        fails("not joined", STATE, x, y -> y.operate(1, 2, true));
        int bank = x.value(6);
        same("income", x.operate(1, 0, false), 30);
        same("cash", x.company(0, 2), 500 - 20 + 30 - 10);
        same("bank", x.value(6), bank + 20 - 30 + 10);
        same("level", x.track(0, 1), 1);
        same("level", x.track(1, 0), 1);
        same("tracks", x.value(7), 1);
        passes(x, 3);
        same("joined by tracks, but too far for two stops", x.operate(7, 1, false), 30);
        passes(x, 3);
        same("joined by two tracks", x.operate(7, 6, false), 30);
        passes(x, 3);
        same("level 2", x.operate(0, 1, false), 35);
        same("level", x.track(0, 1), 2);
        same("a better track is no more tracks", x.value(7), 3);
        same("cash", x.company(0, 2), 480 + 3 * 30 + 35 - 4 * 10 - 20 - 20 - 40);
        passes(x, 3);
        fails("level 3", STATE, x, y -> y.operate(0, 1, false));
        fails("neither is joined", STATE, x, y -> y.operate(4, 5, false));
        fails("no such town", INDEX, x, y -> y.operate(0, 9, false));
        StockLines poor = new StockLines();
        poor.begin(2);
        poor.start(0, 0, 2);
        for (int other = 1; other <= 5; other++) {
            passes(poor, 2);
            poor.operate(0, other, true);
        }
        same("cash", poor.company(0, 2), 50);
        passes(poor, 2);
        poor.operate(NONE, NONE, true);
        passes(poor, 2);
        same("40 is enough for level 2", poor.operate(0, 1, true), 50);
        poor.undo();
        poor.operate(NONE, NONE, true);
        passes(poor, 2);
        fails("30 is not", STATE, poor, y -> y.operate(0, 1, true));
        poor.operate(NONE, NONE, true);
        passes(poor, 2);
        same("20 is enough for level 1", poor.operate(0, 6, true), 50);
        poor.undo();
        poor.operate(NONE, NONE, true);
        passes(poor, 2);
        fails("10 is not", STATE, poor, y -> y.operate(0, 6, true));
    }

    private static void dividends() {
        StockLines x = new StockLines();
        x.start(0, 0, 8);
        x.buy(0);
        passes(x, 3);
        x.setTown(1, 45);
        int bank = x.value(6);
        same("income", x.operate(0, 1, true), 55);
        same("two shares", x.player(0, 0), 300 + 10);
        same("one share", x.player(1, 0), 400 + 5);
        same("price rises", x.company(0, 3), 110);
        same("bank", x.value(6), bank + 20 - 15 + 10);
        same("latest", x.company(0, 8), 55);
        x.setTown(1, 0);
        x.setTown(0, 1);
        passes(x, 3);
        same("income below ten", x.operate(NONE, NONE, true), 1);
        same("price rises all the same", x.company(0, 3), 120);
        x.setTown(0, 0);
        passes(x, 3);
        same("no income", x.operate(NONE, NONE, true), 0);
        same("price falls", x.company(0, 3), 110);
        passes(x, 3);
        same("kept", x.operate(NONE, NONE, false), 0);
        same("price falls", x.company(0, 3), 100);
        x.setTown(0, 10);
        for (int i = 0; i < 4; i++) {
            passes(x, 3);
            x.operate(NONE, NONE, true);
        }
        same("up to step 11", x.company(0, 3), 130);
        StockLines low = new StockLines();
        low.start(0, 0, 2);
        for (int i = 0; i < 3; i++) {
            passes(low, 3);
            low.operate(NONE, NONE, i == 0);
        }
        same("not below step 0", low.company(0, 3), 20);
    }

    private static void companyOrder() {
        StockLines x = new StockLines();
        x.begin(4);
        x.start(3, 0, 4);
        x.start(1, 1, 3);
        x.start(2, 2, 5);
        x.start(0, 3, 4);
        passes(x, 4);
        int[] due = {2, 0, 3, 1};
        for (int i = 0; i < due.length; i++) {
            same("next", x.value(4), due[i]);
            x.extend();
            x.operate(NONE, NONE, i < 2);
        }
        same("over", x.value(4), NONE);
        same("phases", x.value(5), 1);
        x.pass();
        x.pass();
        x.buy(1);
        passes(x, 4);
        same("prices are 60, 50, 50, 40: all have fallen", x.value(4), 2);
        StockLines fixed = new StockLines();
        fixed.start(0, 0, 4);
        fixed.start(1, 1, 3);
        passes(fixed, 3);
        fixed.operate(0, 2, false);
        same("the order is made once", fixed.value(4), 1);
        fixed.operate(NONE, NONE, false);
        same("over", fixed.value(3), 0);
    }

    private static void upkeep() {
        StockLines x = new StockLines();
        x.begin(2);
        x.start(0, 0, 2);
        worthless(x);
        for (int other = 1; other <= 2; other++) {
            passes(x, 2);
            x.extend();
            x.operate(0, other, true);
        }
        same("upkeep of 15 and 20", x.company(0, 2), 200 - 60 - 20 - 15 - 60 - 20 - 20);
        int bank = x.value(6);
        passes(x, 2);
        x.operate(NONE, NONE, true);
        same("the president pays the rest", x.player(0, 0), 420 - 15);
        same("all goes to the bank", x.value(6), bank + 20);
        same("it is open", x.company(0, 0), 1);
        same("it has nothing", x.company(0, 2), 0);
        same("no share is sold", x.player(0, 1), 2);
        x.undo();
        x.undo();
        x.sell(0, 2);
        bank = x.value(6);
        x.pass();
        same("no president", x.company(0, 5), NONE);
        same("income", x.operate(NONE, NONE, true), 0);
        same("closed", x.company(0, 0), 0);
        same("its cash goes to the bank", x.value(6), bank + 5);
        same("for want of money", x.value(9), 1);
        same("open companies", x.value(8), 0);
        x.undo();
        same("undo opens it again", x.value(9), 0);
        same("with its cash", x.company(0, 2), 5);
        x.operate(NONE, NONE, true);
        same("tracks stay", x.value(7), 2);
        same("stock phase", x.value(3), 0);
        same("phases", x.value(5), 3);
        same("can start anew", x.pass(), 0);
        same("start", x.start(0, 7, 2), 200);
        same("two stops", x.company(0, 4), 2);
        same("no latest income", x.company(0, 8), 0);
        x.begin(2);
        same("nothing closed in a new game", x.value(9), 0);
        smallRests();
    }

    /** Company 0 has 9 or 10 of cash for an upkeep of 10, with a president and without one. */
    private static void smallRests() {
        for (int cash = 9; cash <= 10; cash++) {
            for (int sold = 0; sold <= 2; sold += 2) {
                StockLines x = new StockLines();
                x.begin(2);
                x.start(0, 0, 2);
                x.setTown(0, 0);
                x.setTown(1, cash);
                x.setTown(2, 0);
                int[] other = {1, 2, 3, 4, 5, 6};
                passes(x, 2);
                x.operate(0, 1, false);
                worthless(x);
                same("cash", x.company(0, 2), 200 - 20 + cash - 10);
                for (int i = 1; i < other.length; i++) {
                    passes(x, 2);
                    x.operate(0, other[i], false);
                }
                passes(x, 2);
                x.operate(NONE, NONE, false);
                same("cash", x.company(0, 2), cash + 10);
                passes(x, 2);
                x.operate(NONE, NONE, false);
                x.pass();
                if (sold > 0) {
                    x.sell(0, sold);
                }
                x.pass();
                int player = x.player(0, 0);
                x.operate(NONE, NONE, false);
                same("open with " + cash + ", " + sold + " sold", x.company(0, 0), cash == 9 && sold == 2 ? 0 : 1);
                same("paid by the player", player - x.player(0, 0), cash == 9 && sold == 0 ? 1 : 0);
            }
        }
    }

    /** Player 0 has no cash and 5 shares of company 0; company 0 has no income and nothing to gain one with. */
    private static void presidentPays() {
        StockLines x = new StockLines();
        x.begin(2);
        x.start(0, 0, 8);
        x.start(1, 1, 2);
        for (int i = 0; i < 3; i++) {
            x.buy(0);
            x.pass();
        }
        same("cash of the president", x.player(0, 0), 0);
        worthless(x);
        x.pass();
        int[] cash = {405, 305, 200, 155, 110, 65, 20};
        for (int i = 0; i < cash.length; i++) {
            if (i < 3) {
                x.extend();
            }
            same("company 0 is next", x.value(4), 0);
            x.operate(0, i + 1, true);
            same("cash of the company", x.company(0, 2), cash[i]);
            x.operate(NONE, NONE, true);
            passes(x, 2);
        }
        same("price", x.company(0, 3), 30);
        int[] left = {15, 10, 5, 0};
        for (int i = 0; i < left.length; i++) {
            int bank = x.value(6);
            x.operate(NONE, NONE, true);
            same("one share is sold at 20", x.player(0, 1), 4 - i);
            same("price", x.company(0, 3), 20);
            same("cash of the president", x.player(0, 0), left[i]);
            same("bank", x.value(6), bank - 20 + 25);
            same("open", x.company(0, 0), 1);
            x.operate(NONE, NONE, true);
            passes(x, 2);
        }
        int bank = x.value(6);
        x.operate(NONE, NONE, true);
        same("the last share does not do", x.company(0, 0), 0);
        same("the player pays what there is", x.player(0, 0), 0);
        same("bank", x.value(6), bank);
        same("closed for want of money", x.value(9), 1);
        same("shares are gone", x.player(0, 1), 0);
        same("the other one is next", x.value(4), 1);
        x.operate(NONE, NONE, true);
        same("over", x.value(3), 0);
        forcedSales();
    }

    /** Player 0 has no cash and shares of 0 (whose price stays at 130), 1 and 2. */
    private static void forcedSales() {
        StockLines x = new StockLines();
        x.begin(2);
        x.start(0, 0, 8);
        x.start(1, 1, 2);
        x.start(2, 1, 2);
        int[] bought = {1, 1, 0, 1};
        for (int company : bought) {
            x.pass();
            x.buy(company);
        }
        x.pass();
        worthless(x);
        x.pass();
        int[] other = {1, 1, 2, 3, 4, 5, 6};
        for (int i = 0; i < other.length; i++) {
            if (i < 3) {
                x.extend();
            }
            x.operate(0, other[i], true);
            x.operate(NONE, NONE, i % 2 == 0);
            x.operate(NONE, NONE, i % 2 == 0);
            passes(x, 2);
        }
        same("cash of the company", x.company(0, 2), 0);
        holds(x, 0, 3, 3, 2, 130, 30, 30);
        x.operate(NONE, NONE, true);
        holds(x, 5, 3, 2, 2, 130, 20, 30);
        nextPhase(x, false);
        x.operate(NONE, NONE, true);
        holds(x, 0, 3, 1, 2, 130, 20, 20);
        nextPhase(x, false);
        x.operate(NONE, NONE, true);
        holds(x, 15, 3, 0, 1, 130, 20, 20);
        nextPhase(x, true);
        x.operate(NONE, NONE, true);
        holds(x, 20, 3, 0, 0, 130, 30, 20);
        nextPhase(x, true);
        x.operate(NONE, NONE, true);
        holds(x, 125, 2, 0, 0, 120, 40, 30);
        same("nothing is closed", x.value(9), 0);
    }

    private static void nextPhase(StockLines x, boolean pays) {
        x.operate(NONE, NONE, pays);
        x.operate(NONE, NONE, pays);
        passes(x, 2);
    }

    /** The cash and the shares of player 0, and the prices. */
    private static void holds(StockLines x, int... due) {
        for (int what = 0; what < 4; what++) {
            same("player 0, what " + what, x.player(0, what), due[what]);
        }
        for (int company = 0; company < 3; company++) {
            same("price of " + company, x.company(company, 3), due[company + 4]);
        }
    }

    private static void noPresident() {
        StockLines x = new StockLines();
        x.begin(2);
        x.start(0, 0, 2);
        worthless(x);
        x.pass();
        x.sell(0, 2);
        x.pass();
        same("no president", x.company(0, 5), NONE);
        x.extend();
        int[][] tracks = {{NONE, NONE}, {0, 1}, {0, 2}, {0, 2}};
        int[] cash = {125, 90, 55, 0};
        for (int i = 0; i < cash.length; i++) {
            x.operate(tracks[i][0], tracks[i][1], true);
            same("with enough cash it goes on", x.company(0, 0), 1);
            same("cash", x.company(0, 2), cash[i]);
            passes(x, 2);
        }
        x.operate(NONE, NONE, true);
        same("without it does not", x.company(0, 0), 0);
        same("closed", x.value(9), 1);
    }

    private static void promise11Player() {
        StockLines x = new StockLines();
        fails("player -1", INDEX, x, y -> y.player(-1, 7));
        fails("player 3", INDEX, x, y -> y.player(3, -1));
        fails("what -1", ARGUMENT, x, y -> y.player(0, -1));
        fails("what 7", ARGUMENT, x, y -> y.player(2, 7));
        x.start(0, 0, 2);
        x.start(3, 0, 8);
        x.buy(3);
        x.start(1, 0, 2);
        int[] due = {340, 2, 2, 0, 0, 500, 3};
        for (int what = 0; what < due.length; what++) {
            same("what " + what, x.player(0, what), due[what]);
        }
        same("shares of company 3", x.player(1, 4), 2);
        same("set", x.player(1, 6), 8);
        x.sell(3, 2);
        same("worth", x.player(1, 5), 500);
        same("worth falls with the price", x.player(2, 5), 490);
        x.begin(4);
        same("player 3", x.player(3, 0), 500);
    }

    private static void promise12Company() {
        StockLines x = new StockLines();
        fails("company -1", INDEX, x, y -> y.company(-1, 9));
        fails("company 4", INDEX, x, y -> y.company(4, -1));
        fails("what -1", ARGUMENT, x, y -> y.company(0, -1));
        fails("what 9", ARGUMENT, x, y -> y.company(3, 9));
        same("not open", x.company(2, 0), 0);
        for (int what = 1; what <= 8; what++) {
            same("not open", x.company(2, what), NONE);
        }
        x.start(2, 6, 4);
        x.buy(2);
        int[] due = {1, 6, 300, 60, 2, 0, 7, 0, 0};
        for (int what = 0; what < due.length; what++) {
            same("what " + what, x.company(2, what), due[what]);
        }
        passes(x, 3);
        x.operate(6, 7, true);
        x.setTown(7, 90);
        same("income now", x.company(2, 7), 120);
        same("latest income", x.company(2, 8), 70);
        passes(x, 3);
        x.operate(NONE, NONE, true);
        same("latest income", x.company(2, 8), 120);
        x.undo();
        same("latest income of before", x.company(2, 8), 70);
        x.begin(3);
        x.start(2, 6, 4);
        same("none in a new game", x.company(2, 8), 0);
    }

    private static void promise13Track() {
        StockLines x = operating();
        fails("one -1", INDEX, x, y -> y.track(-1, 0));
        fails("one 8", INDEX, x, y -> y.track(8, 0));
        fails("other -1", INDEX, x, y -> y.track(0, -1));
        fails("other 8", INDEX, x, y -> y.track(0, 8));
        x.operate(0, 7, true);
        same("level", x.track(7, 0), 1);
        same("the same town", x.track(7, 7), 0);
        passes(x, 3);
        x.operate(7, 0, true);
        same("level", x.track(0, 7), 2);
        same("another one", x.track(0, 6), 0);
    }

    private static void promise14Value() {
        StockLines x = new StockLines();
        fails("what -1", ARGUMENT, x, y -> y.value(-1));
        fails("what 10", ARGUMENT, x, y -> y.value(10));
        x.begin(2);
        x.start(0, 0, 8);
        x.start(1, 1, 8);
        passes(x, 2);
        x.operate(0, 1, true);
        int[] due = {2, 0, 2, 1, 1, 0, 400 - 1000 + 20 + 10 - 6, 1, 2, 0};
        for (int what = 0; what < due.length; what++) {
            same("what " + what, x.value(what), due[what]);
        }
        x.operate(0, 1, true);
        same("over", x.value(5), 1);
        same("tracks", x.value(7), 1);
    }

    private static void promise15Town() {
        StockLines x = new StockLines();
        fails("town -1", INDEX, x, y -> y.town(-1));
        fails("town 8", INDEX, x, y -> y.town(8));
        x.setTown(3, 0);
        same("set", x.town(3), 0);
        same("first", x.town(0), 10);
        same("last", x.town(7), 40);
    }

    private static void lay(StockLines x, int one, int other) {
        passes(x, x.value(0));
        x.operate(one, other, false);
    }

    private static void promise16Route() {
        StockLines x = new StockLines();
        fails("company -1", INDEX, x, y -> y.route(-1, 0));
        fails("company 4", INDEX, x, y -> y.route(4, 0));
        fails("index -1", INDEX, x, y -> y.route(0, -1));
        same("not open", x.route(0, 0), NONE);
        x.start(0, 2, 8);
        same("no route", x.route(0, 0), NONE);
        lay(x, 2, 5);
        routeIs(x, 0, 2, 5);
        same("far behind", x.route(0, Integer.MAX_VALUE), NONE);
        lay(x, 2, 1);
        routeIs(x, 0, 1, 2);
        lay(x, 1, 7);
        passes(x, 3);
        x.extend();
        routeIs(x, 0, 2, 1, 7);
        x.setTown(7, 0);
        routeIs(x, 0, 1, 2, 5);
        x.setTown(5, 0);
        routeIs(x, 0, 1, 2);
        x.setTown(1, 0);
        x.setTown(2, 0);
        routeIs(x, 0, 1, 2);
        same("income of it", x.company(0, 7), 0);
        x.operate(1, 2, true);
        routeIs(x, 0, 1, 2);
        same("income of a better track", x.company(0, 7), 5);
        x.start(1, 6, 8);
        same("another company's route", x.route(0, 0), 1);
        same("no route of its own", x.route(1, 0), NONE);
        same("no income of its own", x.company(1, 7), 0);
        longRoutes();
    }

    /** A ring of all towns: a route of five goes round it, with the home anywhere among them. */
    private static void longRoutes() {
        StockLines x = new StockLines();
        x.setTown(0, 90);
        x.start(0, 3, 8);
        int[][] ring = {{3, 4}, {4, 5}, {5, 6}, {6, 7}, {7, 0}, {0, 1}, {1, 2}, {2, 3}};
        for (int i = 0; i < ring.length; i++) {
            passes(x, 3);
            if (i < 3) {
                x.extend();
            }
            x.operate(ring[i][0], ring[i][1], false);
        }
        same("stops", x.company(0, 4), 5);
        routeIs(x, 0, 3, 2, 1, 0, 7);
        same("income", x.company(0, 7), 40 + 30 + 20 + 90 + 40);
        x.setTown(7, 10);
        routeIs(x, 0, 0, 1, 2, 3, 4);
        x.setTown(7, 11);
        routeIs(x, 0, 3, 2, 1, 0, 7);
        x.setTown(7, 0);
        x.setTown(0, 0);
        x.setTown(1, 0);
        x.setTown(2, 0);
        routeIs(x, 0, 2, 3, 4, 5, 6);
    }

    private static void promise17IncomeWith() {
        StockLines x = new StockLines();
        fails("company -1", INDEX, x, y -> y.incomeWith(-1, 0, 0));
        fails("company 4", INDEX, x, y -> y.incomeWith(4, 0, 1));
        fails("one 8", INDEX, x, y -> y.incomeWith(0, 8, 1));
        fails("other -1", INDEX, x, y -> y.incomeWith(0, 0, -1));
        fails("the same", ARGUMENT, x, y -> y.incomeWith(0, 1, 1));
        same("not open", x.incomeWith(0, 0, 1), NONE);
        x.start(0, 0, 8);
        same("a new one", x.incomeWith(0, 1, 0), 30);
        same("elsewhere", x.incomeWith(0, 6, 7), 0);
        lay(x, 0, 1);
        long before = x.digest();
        same("a better one", x.incomeWith(0, 0, 1), 35);
        same("nothing has changed", x.digest(), before);
        same("level", x.track(0, 1), 1);
        lay(x, 0, 1);
        same("level 2", x.incomeWith(0, 1, 0), NONE);
        same("another one", x.incomeWith(0, 0, 7), 50);
    }

    private static void promise18BestTrack() {
        StockLines x = new StockLines();
        fails("company -1", INDEX, x, y -> y.bestTrack(-1));
        fails("company 4", INDEX, x, y -> y.bestTrack(4));
        same("not open", x.bestTrack(0), NONE);
        x.start(0, 5, 2);
        same("of several the lowest number", x.bestTrack(0), 35);
        x.setTown(6, 88);
        same("neighbours by number", x.bestTrack(0), 56);
        x.setTown(6, 30);
        x.setTown(7, 41);
        same("lower town first", x.bestTrack(0), 57);
        x.setTown(7, 40);
        lay(x, 5, 7);
        same("a better one", x.bestTrack(0), 57);
        same("none joined is better", x.incomeWith(0, 5, 7), 65);
        lay(x, 5, 7);
        same("lowest of all with the same income", x.bestTrack(0), 5);
        StockLines poor = new StockLines();
        poor.begin(2);
        poor.start(0, 0, 2);
        for (int town = 0; town < 8; town++) {
            poor.setTown(town, 0);
        }
        int[][] tracks = {{0, 1}, {0, 1}, {0, 2}, {0, 3}, {0, 4}};
        for (int[] track : tracks) {
            lay(poor, track[0], track[1]);
        }
        same("cash", poor.company(0, 2), 200 - 120 - 50 + 5 * 4);
        int[] best = {2, 2, 5, 5};
        for (int i = 0; i < best.length; i++) {
            same("with a cash of " + poor.company(0, 2), poor.bestTrack(0), best[i]);
            passes(poor, 2);
            poor.operate(NONE, NONE, true);
        }
        same("no cash", poor.bestTrack(0), NONE);
    }

    private static void promise19Dividend() {
        StockLines x = new StockLines();
        fails("company -1", INDEX, x, y -> y.dividend(-1));
        fails("company 4", INDEX, x, y -> y.dividend(4));
        same("not open", x.dividend(3), 0);
        x.start(3, 7, 8);
        same("without a route", x.dividend(3), 0);
        lay(x, 7, 6);
        same("of 70", x.dividend(3), 7);
        x.setTown(7, 39);
        same("rounded down", x.dividend(3), 6);
    }

    private static void promise20Leader() {
        StockLines x = new StockLines();
        same("of several the lowest", x.leader(), 0);
        x.start(0, 0, 8);
        same("the same worth", x.leader(), 0);
        x.buy(0);
        x.buy(0);
        x.sell(0, 2);
        same("player 1 has lost 10, player 2 too", x.leader(), 0);
        x.begin(4);
        x.start(0, 0, 8);
        x.start(1, 1, 8);
        passes(x, 4);
        x.operate(0, 1, false);
        same("player 0 has lost 20", x.leader(), 1);
        x.undo();
        x.operate(0, 1, true);
        same("player 0 has won", x.leader(), 0);
        x.setTown(0, 90);
        x.operate(0, 1, true);
        same("player 1 has won more", x.leader(), 1);
    }

    private static void unsoldIs(StockLines x, double want) {
        alike("unsold", x.unsold(), want);
    }

    private static void promise21Unsold() {
        StockLines x = new StockLines();
        unsoldIs(x, 0.0);
        x.start(0, 0, 2);
        unsoldIs(x, 8.0 / 10.0);
        x.start(1, 0, 2);
        x.start(2, 0, 2);
        x.buy(2);
        unsoldIs(x, 23.0 / 30.0);
        x.pass();
        x.sell(2, 2);
        unsoldIs(x, 25.0 / 30.0);
    }

    private static void promise22Append() {
        StockLines x = new StockLines();
        fails("-1", ARGUMENT, x, y -> y.append(-1));
        fails("128", ARGUMENT, x, y -> y.append(128));
        same("first", x.append(0), 1);
        same("second", x.append(127), 2);
        for (int length = 3; length <= 90; length++) {
            same("length", x.append('p'), length);
        }
        fails("full", STATE, x, y -> y.append('p'));
        fails("full, and out of range", ARGUMENT, x, y -> y.append(128));
        fails("not undoable", STATE, x, StockLines::undo);
        same("clear", x.clearText(), 90);
        same("again", x.append('p'), 1);
    }

    private static void promise23ClearText() {
        StockLines x = new StockLines();
        same("empty", x.clearText(), 0);
        x.append('p');
        x.append(';');
        same("two", x.clearText(), 2);
        same("empty", x.clearText(), 0);
        fails("not undoable", STATE, x, StockLines::undo);
        same("no moves", x.play(), 0);
        same("nobody has passed", x.value(2), 0);
    }

    private static void errorAt(String text, int position) {
        StockLines x = new StockLines();
        write(x, text);
        long before = x.digest();
        same("play of " + text, x.play(), -10 - position);
        same("digest after " + text, x.digest(), before);
    }

    private static void promise24Play() {
        errorAt(";", 0);
        errorAt(" p;", 0);
        errorAt("p", 1);
        errorAt("p;;", 2);
        errorAt("p ;", 1);
        errorAt("P;", 0);
        errorAt("b", 1);
        errorAt("b;", 1);
        errorAt("b4;", 1);
        errorAt("b/;", 1);
        errorAt("b0", 2);
        errorAt("b00;", 2);
        errorAt("x", 1);
        errorAt("x4", 1);
        errorAt("x0", 2);
        errorAt("x00;", 2);
        errorAt("x0:;", 2);
        errorAt("x0;", 2);
        errorAt("x012;", 3);
        errorAt("o", 1);
        errorAt("o8", 1);
        errorAt("k8", 1);
        errorAt("o0;", 2);
        errorAt("o0", 2);
        errorAt("k00;", 2);
        errorAt("k08;", 2);
        errorAt("k07", 3);
        errorAt("k077;", 3);
        errorAt("p;p;o12;q", 8);
        StockLines x = new StockLines();
        same("no moves", x.play(), 0);
        same("one saved state", x.undo(), 0);
        x.start(0, 0, 8);
        same("moves", played(x, "b0;b0;x02;p;p;"), 5);
        same("shares of 0", x.player(0, 1), 0);
        same("shares of 1", x.player(1, 1), 1);
        same("passes", x.value(2), 2);
        same("one saved state", x.undo(), 1);
        same("shares of 0", x.player(0, 1), 2);
        same("the text stays", x.clearText(), 14);
        same("a move that is not possible", played(x, "b1;p;"), 0);
        same("undo", x.undo(), 1);
        same("wrong phase", played(x, "p;o;p;"), 1);
        same("turn", x.value(1), 2);
        same("into the operating phase", played(x, "p;p;b0;"), 2);
        same("operating", x.value(3), 1);
        same("a track that cannot be laid", played(x, "k12;"), 0);
        same("in the operating phase", played(x, "p;"), 0);
        same("keeps", played(x, "k10;p;p;p;o01;"), 5);
        same("level", x.track(0, 1), 2);
        same("phases", x.value(5), 2);
        same("cash", x.company(0, 2), 500 - 20 + 30 - 10 - 40 - 10);
        same("price", x.company(0, 3), 100);
        same("pays without a track", played(x, "p;p;p;o;"), 4);
        same("keeps without a track", played(x, "p;p;p;k;p;p;p;"), 7);
        same("sells too many", played(x, "x09;"), 0);
        same("not open", played(x, "x11;"), 0);
        StringBuilder full = new StringBuilder();
        for (int i = 0; i < 45; i++) {
            full.append("p;");
        }
        StockLines y = new StockLines();
        same("a full text", played(y, full.toString()), 45);
        same("phases", y.value(5), 15);
    }

    private static void promise25Undo() {
        StockLines x = new StockLines();
        fails("no saved state", STATE, x, StockLines::undo);
        long[] digests = new long[7];
        for (int i = 0; i < 6; i++) {
            digests[i] = x.digest();
            x.setTown(0, 20 + i);
        }
        for (int left = 3; left >= 0; left--) {
            same("left", x.undo(), left);
            same("value", x.town(0), 20 + left + 1);
        }
        fails("no saved state", STATE, x, StockLines::undo);
        x.append('p');
        x.start(0, 3, 5);
        passes(x, 3);
        long before = x.digest();
        x.append(';');
        x.extend();
        x.operate(3, 7, true);
        x.undo();
        x.undo();
        x.clearText();
        x.append('p');
        same("all but the number of states", x.value(3), 1);
        same("cash", x.company(0, 2), 350);
        same("two left", x.undo(), 1);
        same("passes", x.value(2), 2);
        x.pass();
        same("two saved states, not four", x.digest() == before ? 1 : 0, 0);
        x.undo();
        x.append(';');
        same("the text is not restored", x.clearText(), 2);
        same("the first one left", x.undo(), 0);
        everythingIsRestored();
    }

    private static void everythingIsRestored() {
        StockLines x = new StockLines();
        x.begin(2);
        x.start(0, 0, 8);
        x.start(1, 4, 3);
        passes(x, 2);
        x.setTown(6, 66);
        x.setTown(6, 67);
        x.setTown(6, 68);
        x.setTown(6, 69);
        long before = x.digest();
        x.extend();
        x.operate(0, 1, true);
        x.operate(0, 4, false);
        x.begin(4);
        for (int i = 0; i < 4; i++) {
            x.undo();
        }
        same("next company", x.value(4), 0);
        same("no latest income", x.company(0, 8), 0);
        same("extend is possible again", x.extend(), 3);
        x.undo();
        x.setTown(6, 69);
        x.setTown(6, 69);
        x.setTown(6, 69);
        x.setTown(6, 69);
        same("digest", x.digest(), before);
        x.operate(NONE, NONE, false);
        x.begin(2);
        x.start(3, 0, 8);
        passes(x, 2);
        for (int i = 3; i >= 0; i--) {
            same("left", x.undo(), i);
        }
        same("second company of the order", x.value(4), 1);
    }

    private static void promise26Digest() {
        StockLines x = new StockLines();
        same("new", x.digest(), hash(x, 0, 0));
        x.append('p');
        x.begin(4);
        x.start(0, 0, 8);
        passes(x, 4);
        x.operate(0, 6, true);
        same("with all", x.digest(), hash(x, 1, 4));
        same("asking changes nothing", x.digest(), hash(x, 1, 4));
    }

    public static void main(String[] args) {
        Runnable[] all = {
            PromiseTests::promise1NewObject, PromiseTests::promise2Begin, PromiseTests::promise3SetTown,
            PromiseTests::promise4Start, PromiseTests::promise5Buy, PromiseTests::promise6Sell,
            PromiseTests::promise7Merge, PromiseTests::promise8Pass, PromiseTests::promise9Extend,
            PromiseTests::promise10Operate, PromiseTests::promise11Player, PromiseTests::promise12Company,
            PromiseTests::promise13Track, PromiseTests::promise14Value, PromiseTests::promise15Town,
            PromiseTests::promise16Route, PromiseTests::promise17IncomeWith, PromiseTests::promise18BestTrack,
            PromiseTests::promise19Dividend, PromiseTests::promise20Leader, PromiseTests::promise21Unsold,
            PromiseTests::promise22Append, PromiseTests::promise23ClearText, PromiseTests::promise24Play,
            PromiseTests::promise25Undo, PromiseTests::promise26Digest,
        };
        for (int i = 0; i < all.length; i++) {
            label = "promise " + (i + 1);
            try {
                all[i].run();
            } catch (RuntimeException e) {
                brokenOff(e);
            }
        }
        end(all.length);
    }
}
