import java.util.Arrays;

public final class StockLines {
    public static final int NONE = -1;

    private static final int TOWNS = 8;
    private static final int MOST_TOWN_VALUE = 90;
    private static final int MOST_LEVEL = 2;
    private static final int TRACK_COST = 20;
    private static final int GOOD_TRACK_INCOME = 5;

    private static final int COMPANIES = 4;
    private static final int SHARES = 10;
    private static final int MOST_BOUGHT = 6;
    private static final int FIRST_SHARES = 2;
    private static final int FIRST_CASH_PRICES = 5;
    private static final int LEAST_FIRST_STEP = 2;
    private static final int MOST_FIRST_STEP = 8;
    private static final int MOST_STEP = 11;
    private static final int FIRST_STOPS = 2;
    private static final int MOST_STOPS = 5;
    private static final int STOP_COST = 60;
    private static final int STOP_UPKEEP = 5;

    private static final int LEAST_PLAYERS = 2;
    private static final int MOST_PLAYERS = 4;
    private static final int USUAL_PLAYERS = 3;
    private static final int FIRST_PLAYER_CASH = 500;

    private static final int MOST_SAVED = 4;
    private static final int MOST_TEXT = 90;
    private static final int MOST_BYTE = 127;
    private static final int ERROR_ANSWER = -10;
    private static final int DIGEST_START = 3583;
    private static final int PLAYER_NUMBERS = 7;
    private static final int COMPANY_NUMBERS = 9;
    private static final int VALUE_NUMBERS = 10;

    private final Game game;
    private final Game[] saved;
    private int savedCount;
    private final Script script;

    public StockLines() {
        RouteSearch search = new RouteSearch();
        game = new Game(search);
        saved = new Game[MOST_SAVED];
        for (int i = 0; i < MOST_SAVED; i++) {
            saved[i] = new Game(search);
        }
        savedCount = 0;
        script = new Script();
    }

    // ---- stock phase

    public int begin(int players) throws IllegalArgumentException {
        if (players < LEAST_PLAYERS || players > MOST_PLAYERS) {
            throw new IllegalArgumentException();
        }
        saveState();
        int phasesBefore = game.phasesOver;
        game.reset(players);
        return phasesBefore;
    }

    public int setTown(int town, int value) throws IndexOutOfBoundsException, IllegalArgumentException {
        if (!isTown(town)) {
            throw new IndexOutOfBoundsException();
        }
        if (value < 0 || value > MOST_TOWN_VALUE) {
            throw new IllegalArgumentException();
        }
        saveState();
        int before = game.land.worth[town];
        game.land.worth[town] = value;
        return before;
    }

    public int start(int company, int home, int step)
            throws IndexOutOfBoundsException, IllegalArgumentException, IllegalStateException {
        if (!isCompany(company) || !isTown(home)) {
            throw new IndexOutOfBoundsException();
        }
        if (step < LEAST_FIRST_STEP || step > MOST_FIRST_STEP) {
            throw new IllegalArgumentException();
        }
        if (!game.canStart(company, step)) {
            throw new IllegalStateException();
        }
        saveState();
        game.startCompany(company, home, step);
        return game.companies[company].cash;
    }

    public int buy(int company) throws IndexOutOfBoundsException, IllegalStateException {
        if (!isCompany(company)) {
            throw new IndexOutOfBoundsException();
        }
        if (!game.canBuy(company)) {
            throw new IllegalStateException();
        }
        saveState();
        return game.buyShare(company);
    }

    public int sell(int company, int shares)
            throws IndexOutOfBoundsException, IllegalArgumentException, IllegalStateException {
        if (!isCompany(company)) {
            throw new IndexOutOfBoundsException();
        }
        if (shares < 1 || shares > SHARES) {
            throw new IllegalArgumentException();
        }
        if (!game.canSell(company, shares)) {
            throw new IllegalStateException();
        }
        saveState();
        game.sellShares(game.turn, company, shares);
        return game.cash[game.turn];
    }

    public int merge(int into, int from)
            throws IndexOutOfBoundsException, IllegalArgumentException, IllegalStateException {
        if (!isCompany(into) || !isCompany(from)) {
            throw new IndexOutOfBoundsException();
        }
        if (into == from) {
            throw new IllegalArgumentException();
        }
        if (!game.canMerge(into, from)) {
            throw new IllegalStateException();
        }
        saveState();
        game.mergeCompanies(into, from);
        return game.companies[into].cash;
    }

    public int pass() throws IllegalStateException {
        if (game.operating) {
            throw new IllegalStateException();
        }
        saveState();
        game.passTurn();
        return game.operating ? 1 : 0;
    }

    // ---- operating phase

    public int extend() throws IllegalStateException {
        if (!game.canExtend()) {
            throw new IllegalStateException();
        }
        saveState();
        return game.extendNext();
    }

    public int operate(int one, int other, boolean pays)
            throws IndexOutOfBoundsException, IllegalArgumentException, IllegalStateException {
        boolean lays = one != NONE || other != NONE;
        if (lays && (!isTown(one) || !isTown(other))) {
            throw new IndexOutOfBoundsException();
        }
        if (lays && one == other) {
            throw new IllegalArgumentException();
        }
        if (!game.canOperate(one, other)) {
            throw new IllegalStateException();
        }
        saveState();
        return game.operateNext(one, other, pays);
    }

    // ---- values

    public int player(int player, int what) throws IndexOutOfBoundsException, IllegalArgumentException {
        if (player < 0 || player >= game.players) {
            throw new IndexOutOfBoundsException();
        }
        if (what < 0 || what >= PLAYER_NUMBERS) {
            throw new IllegalArgumentException();
        }
        if (what == 0) {
            return game.cash[player];
        }
        if (what <= COMPANIES) {
            return game.companies[what - 1].held[player];
        }
        return what == 5 ? game.worthOf(player) : game.presidenciesOf(player);
    }

    public int company(int company, int what) throws IndexOutOfBoundsException, IllegalArgumentException {
        if (!isCompany(company)) {
            throw new IndexOutOfBoundsException();
        }
        if (what < 0 || what >= COMPANY_NUMBERS) {
            throw new IllegalArgumentException();
        }
        Company asked = game.companies[company];
        if (what == 0) {
            return asked.open ? 1 : 0;
        }
        if (!asked.open) {
            return NONE;
        }
        return what == 7 ? game.incomeOf(asked) : asked.number(what);
    }

    public int track(int one, int other) throws IndexOutOfBoundsException {
        if (!isTown(one) || !isTown(other)) {
            throw new IndexOutOfBoundsException();
        }
        return game.land.level[one][other];
    }

    public int value(int what) throws IllegalArgumentException {
        if (what < 0 || what >= VALUE_NUMBERS) {
            throw new IllegalArgumentException();
        }
        return game.number(what);
    }

    public int town(int town) throws IndexOutOfBoundsException {
        if (!isTown(town)) {
            throw new IndexOutOfBoundsException();
        }
        return game.land.worth[town];
    }

    // ---- what if

    public int route(int company, int index) throws IndexOutOfBoundsException {
        if (!isCompany(company) || index < 0) {
            throw new IndexOutOfBoundsException();
        }
        return game.routeTown(game.companies[company], index);
    }

    public int incomeWith(int company, int one, int other)
            throws IndexOutOfBoundsException, IllegalArgumentException {
        if (!isCompany(company) || !isTown(one) || !isTown(other)) {
            throw new IndexOutOfBoundsException();
        }
        if (one == other) {
            throw new IllegalArgumentException();
        }
        Company asked = game.companies[company];
        if (!asked.open || game.land.level[one][other] >= MOST_LEVEL) {
            return NONE;
        }
        return game.incomeIfRaised(asked, one, other);
    }

    public int bestTrack(int company) throws IndexOutOfBoundsException {
        if (!isCompany(company)) {
            throw new IndexOutOfBoundsException();
        }
        return game.bestTrackOf(game.companies[company]);
    }

    public int dividend(int company) throws IndexOutOfBoundsException {
        if (!isCompany(company)) {
            throw new IndexOutOfBoundsException();
        }
        Company asked = game.companies[company];
        return asked.open ? game.incomeOf(asked) / SHARES : 0;
    }

    public int leader() {
        int best = 0;
        for (int player = 1; player < game.players; player++) {
            if (game.worthOf(player) > game.worthOf(best)) {
                best = player;
            }
        }
        return best;
    }

    public double unsold() {
        int open = game.openCompanies();
        if (open == 0) {
            return 0.0;
        }
        return (double) game.unsoldShares() / (double) (SHARES * open);
    }

    // ---- text

    public int append(int value) throws IllegalArgumentException, IllegalStateException {
        if (value < 0 || value > MOST_BYTE) {
            throw new IllegalArgumentException();
        }
        if (script.length >= MOST_TEXT) {
            throw new IllegalStateException();
        }
        script.add(value);
        return script.length;
    }

    public int clearText() {
        int before = script.length;
        script.length = 0;
        return before;
    }

    public int play() {
        int error = script.errorPosition();
        if (error != NONE) {
            return ERROR_ANSWER - error;
        }
        saveState();
        int made = 0;
        int at = 0;
        while (made < MOST_TEXT && at < script.length && makeMove(at)) {
            made++;
            at = script.nextMove(at);
        }
        return made;
    }

    // ---- state

    public int undo() throws IllegalStateException {
        if (savedCount <= 0) {
            throw new IllegalStateException();
        }
        savedCount--;
        game.copyFrom(saved[savedCount]);
        return savedCount;
    }

    public long digest() {
        long h = 31L * DIGEST_START + script.length;
        for (int what = 0; what < VALUE_NUMBERS; what++) {
            h = 31 * h + value(what);
        }
        for (int player = 0; player < game.players; player++) {
            for (int what = 0; what < PLAYER_NUMBERS; what++) {
                h = 31 * h + player(player, what);
            }
        }
        for (int company = 0; company < COMPANIES; company++) {
            for (int what = 0; what < COMPANY_NUMBERS; what++) {
                h = 31 * h + company(company, what);
            }
        }
        for (int a = 0; a < TOWNS; a++) {
            for (int b = a + 1; b < TOWNS; b++) {
                h = 31 * h + track(a, b);
            }
        }
        for (int town = 0; town < TOWNS; town++) {
            h = 31 * h + town(town);
        }
        return 31 * h + savedCount;
    }

    // ---- helpers

    private static boolean isTown(int town) {
        return town >= 0 && town < TOWNS;
    }

    private static boolean isCompany(int company) {
        return company >= 0 && company < COMPANIES;
    }

    /** Rows are made once in the constructor; the dropped oldest one is written over, so that no call makes objects. */
    private void saveState() {
        if (savedCount == MOST_SAVED) {
            Game oldest = saved[0];
            for (int i = 1; i < MOST_SAVED; i++) {
                saved[i - 1] = saved[i];
            }
            saved[MOST_SAVED - 1] = oldest;
            savedCount--;
        }
        saved[savedCount].copyFrom(game);
        savedCount++;
    }

    private boolean makeMove(int at) {
        int sign = script.sign(at);
        int first = script.digit(at + 1);
        int second = script.digit(at + 2);
        switch (sign) {
            case 'b':
                if (!isCompany(first) || !game.canBuy(first)) {
                    return false;
                }
                game.buyShare(first);
                return true;
            case 'x':
                if (!isCompany(first) || !game.canSell(first, second)) {
                    return false;
                }
                game.sellShares(game.turn, first, second);
                return true;
            case 'p':
                if (game.operating) {
                    return false;
                }
                game.passTurn();
                return true;
            case 'o':
            case 'k':
                if (!game.canOperate(first, second)) {
                    return false;
                }
                game.operateNext(first, second, sign == 'o');
                return true;
            default:
                return false;
        }
    }

    // ---- the parts

    /** Everything that undo brings back: the game without the text. */
    private static final class Game {
        final RouteSearch search;
        final Land land = new Land();
        final Company[] companies = new Company[COMPANIES];
        final int[] cash = new int[MOST_PLAYERS];
        final int[] order = new int[COMPANIES];
        int orderLength;
        int orderPlace;
        boolean extended;
        int players;
        int turn;
        int passed;
        boolean operating;
        int phasesOver;
        int bank;
        int closed;

        Game(RouteSearch shared) {
            search = shared;
            for (int i = 0; i < COMPANIES; i++) {
                companies[i] = new Company();
            }
            reset(USUAL_PLAYERS);
        }

        void reset(int newPlayers) {
            land.clearTracks();
            for (int i = 0; i < COMPANIES; i++) {
                companies[i].close();
                order[i] = 0;
            }
            Arrays.fill(cash, FIRST_PLAYER_CASH);
            orderLength = 0;
            orderPlace = 0;
            extended = false;
            players = newPlayers;
            turn = 0;
            passed = 0;
            operating = false;
            phasesOver = 0;
            bank = 0;
            closed = 0;
        }

        void copyFrom(Game other) {
            land.copyFrom(other.land);
            for (int i = 0; i < COMPANIES; i++) {
                companies[i].copyFrom(other.companies[i]);
            }
            System.arraycopy(other.cash, 0, cash, 0, MOST_PLAYERS);
            System.arraycopy(other.order, 0, order, 0, COMPANIES);
            orderLength = other.orderLength;
            orderPlace = other.orderPlace;
            extended = other.extended;
            players = other.players;
            turn = other.turn;
            passed = other.passed;
            operating = other.operating;
            phasesOver = other.phasesOver;
            bank = other.bank;
            closed = other.closed;
        }

        boolean canStart(int number, int step) {
            return !operating && !companies[number].open
                    && cash[turn] >= FIRST_SHARES * Company.priceAt(step);
        }

        void startCompany(int number, int home, int step) {
            Company started = companies[number];
            started.openAt(home, step);
            int price = started.price();
            playerPays(turn, FIRST_SHARES * price);
            started.held[turn] = FIRST_SHARES;
            started.findPresident();
            started.cash = FIRST_CASH_PRICES * price;
            bank -= started.cash;
            endActiveTurn();
        }

        boolean canBuy(int number) {
            Company wanted = companies[number];
            return !operating && wanted.open && wanted.bankShares() > 0
                    && wanted.held[turn] < MOST_BOUGHT && cash[turn] >= wanted.price();
        }

        int buyShare(int number) {
            Company bought = companies[number];
            playerPays(turn, bought.price());
            bought.held[turn]++;
            bought.findPresident();
            int held = bought.held[turn];
            endActiveTurn();
            return held;
        }

        boolean canSell(int number, int shares) {
            Company offered = companies[number];
            return !operating && offered.open && offered.held[turn] >= shares;
        }

        void sellShares(int player, int number, int shares) {
            Company sold = companies[number];
            playerPays(player, -shares * Company.priceAt(sold.step));
            sold.held[player] -= shares;
            sold.fall();
            sold.findPresident();
        }

        boolean canMerge(int into, int from) {
            Company stays = companies[into];
            Company goes = companies[from];
            return !operating && stays.open && goes.open
                    && stays.president == turn && goes.president == turn
                    && stays.bankShares() >= goes.exchangedShares();
        }

        void mergeCompanies(int into, int from) {
            Company stays = companies[into];
            Company goes = companies[from];
            int half = goes.price() / 2;
            for (int player = 0; player < players; player++) {
                int held = goes.held[player];
                stays.held[player] += held / 2;
                playerPays(player, -(held % 2) * half);
            }
            stays.cash += goes.cash;
            goes.close();
            stays.findPresident();
            endActiveTurn();
        }

        void passTurn() {
            passed++;
            nextTurn();
            if (passed >= players) {
                beginOperating();
            }
        }

        private void endActiveTurn() {
            passed = 0;
            nextTurn();
        }

        private void nextTurn() {
            turn = turn + 1 < players ? turn + 1 : 0;
        }

        /** A negative amount is paid by the bank to the player. */
        private void playerPays(int player, int amount) {
            cash[player] -= amount;
            bank += amount;
        }

        /** A negative amount is paid by the bank to the company. */
        private void companyPays(Company payer, int amount) {
            payer.cash -= amount;
            bank += amount;
        }

        private void beginOperating() {
            operating = true;
            extended = false;
            orderPlace = 0;
            orderLength = 0;
            for (int number = 0; number < COMPANIES; number++) {
                if (companies[number].open) {
                    putInOrder(number);
                }
            }
            endOperatingIfOver();
        }

        /** Behind all of its own step, so that of like prices the lowest number stays first. */
        private void putInOrder(int number) {
            int place = orderLength;
            while (place > 0 && companies[order[place - 1]].step < companies[number].step) {
                order[place] = order[place - 1];
                place--;
            }
            order[place] = number;
            orderLength++;
        }

        private void endOperatingIfOver() {
            if (orderPlace >= orderLength) {
                operating = false;
                passed = 0;
                phasesOver++;
            }
        }

        int nextCompany() {
            return operating && orderPlace < orderLength ? order[orderPlace] : NONE;
        }

        boolean canExtend() {
            int number = nextCompany();
            if (number == NONE || extended) {
                return false;
            }
            Company next = companies[number];
            return next.stops < MOST_STOPS && next.cash >= STOP_COST;
        }

        int extendNext() {
            int number = nextCompany();
            if (number == NONE) {
                return NONE;
            }
            Company next = companies[number];
            companyPays(next, STOP_COST);
            next.stops++;
            extended = true;
            return next.stops;
        }

        boolean canOperate(int one, int other) {
            int number = nextCompany();
            if (number == NONE) {
                return false;
            }
            boolean lays = one != NONE || other != NONE;
            return !lays || canLay(companies[number], one, other);
        }

        boolean canLay(Company builder, int one, int other) {
            if (!isTown(one) || !isTown(other) || one == other) {
                return false;
            }
            int level = land.level[one][other];
            if (level >= MOST_LEVEL || builder.cash < TRACK_COST * (level + 1)) {
                return false;
            }
            search.measure(land, builder.home);
            return search.reached(one) || search.reached(other);
        }

        int operateNext(int one, int other, boolean pays) {
            int number = nextCompany();
            if (number == NONE) {
                return 0;
            }
            Company next = companies[number];
            if (one != NONE && other != NONE) {
                land.setLevel(one, other, land.level[one][other] + 1);
                companyPays(next, TRACK_COST * land.level[one][other]);
            }
            int income = incomeOf(next);
            next.latest = income;
            if (pays) {
                payOut(next, income);
            } else {
                companyPays(next, -income);
                next.fall();
            }
            payUpkeep(next);
            extended = false;
            orderPlace++;
            endOperatingIfOver();
            return income;
        }

        private void payOut(Company payer, int income) {
            for (int player = 0; player < players; player++) {
                playerPays(player, -(payer.held[player] * (income / SHARES)));
            }
            if (income > 0) {
                payer.rise();
            } else {
                payer.fall();
            }
        }

        private void payUpkeep(Company owing) {
            int upkeep = STOP_UPKEEP * owing.stops;
            int own = Math.min(upkeep, owing.cash);
            companyPays(owing, own);
            int rest = upkeep - own;
            if (rest > 0 && owing.president != NONE) {
                rest -= payRest(owing.president, rest);
            }
            if (rest > 0) {
                companyPays(owing, owing.cash);
                owing.close();
                closed++;
            }
        }

        private int payRest(int player, int rest) {
            for (int sales = 0; sales < COMPANIES * SHARES && cash[player] < rest; sales++) {
                int cheapest = cheapestHeld(player);
                if (cheapest == NONE) {
                    break;
                }
                sellShares(player, cheapest, 1);
            }
            int paid = Math.min(rest, cash[player]);
            playerPays(player, paid);
            return paid;
        }

        private int cheapestHeld(int player) {
            int cheapest = NONE;
            for (int number = 0; number < COMPANIES; number++) {
                Company held = companies[number];
                if (held.open && held.held[player] > 0
                        && (cheapest == NONE || held.step < companies[cheapest].step)) {
                    cheapest = number;
                }
            }
            return cheapest;
        }

        int incomeOf(Company asked) {
            search.find(land, asked.home, asked.stops);
            return search.income();
        }

        int incomeIfRaised(Company asked, int one, int other) {
            int level = land.level[one][other];
            land.setLevel(one, other, level + 1);
            int income = incomeOf(asked);
            land.setLevel(one, other, level);
            return income;
        }

        int bestTrackOf(Company asked) {
            int best = NONE;
            int bestIncome = NONE;
            for (int a = 0; a < TOWNS && asked.open; a++) {
                for (int b = a + 1; b < TOWNS; b++) {
                    int income = canLay(asked, a, b) ? incomeIfRaised(asked, a, b) : NONE;
                    if (income > bestIncome) {
                        bestIncome = income;
                        best = 10 * a + b;
                    }
                }
            }
            return best;
        }

        int routeTown(Company asked, int index) {
            if (!asked.open) {
                return NONE;
            }
            search.find(land, asked.home, asked.stops);
            return search.routeTown(index);
        }

        int worthOf(int player) {
            int worth = cash[player];
            for (int number = 0; number < COMPANIES; number++) {
                worth += companies[number].held[player] * companies[number].price();
            }
            return worth;
        }

        int presidenciesOf(int player) {
            int set = 0;
            for (int number = 0; number < COMPANIES; number++) {
                if (companies[number].president == player) {
                    set |= 1 << number;
                }
            }
            return set;
        }

        int openCompanies() {
            int count = 0;
            for (int number = 0; number < COMPANIES; number++) {
                count += companies[number].open ? 1 : 0;
            }
            return count;
        }

        int unsoldShares() {
            int count = 0;
            for (int number = 0; number < COMPANIES; number++) {
                count += companies[number].open ? companies[number].bankShares() : 0;
            }
            return count;
        }

        int number(int what) {
            switch (what) {
                case 0:
                    return players;
                case 1:
                    return turn;
                case 2:
                    return passed;
                case 3:
                    return operating ? 1 : 0;
                case 4:
                    return nextCompany();
                case 5:
                    return phasesOver;
                case 6:
                    return bank;
                case 7:
                    return land.tracks();
                case 8:
                    return openCompanies();
                default:
                    return closed;
            }
        }
    }

    /** A company that is not open is as a new one, so that it can start, and sums over all companies need no test. */
    private static final class Company {
        final int[] held = new int[MOST_PLAYERS];
        boolean open;
        int home;
        int cash;
        int step;
        int stops;
        int president;
        int latest;

        static int priceAt(int step) {
            return 20 + 10 * step;
        }

        int price() {
            return priceAt(step);
        }

        void openAt(int town, int firstStep) {
            open = true;
            home = town;
            step = firstStep;
            stops = FIRST_STOPS;
        }

        void close() {
            Arrays.fill(held, 0);
            open = false;
            home = 0;
            cash = 0;
            step = 0;
            stops = 0;
            president = NONE;
            latest = 0;
        }

        void copyFrom(Company other) {
            System.arraycopy(other.held, 0, held, 0, MOST_PLAYERS);
            open = other.open;
            home = other.home;
            cash = other.cash;
            step = other.step;
            stops = other.stops;
            president = other.president;
            latest = other.latest;
        }

        int bankShares() {
            int left = SHARES;
            for (int player = 0; player < MOST_PLAYERS; player++) {
                left -= held[player];
            }
            return left;
        }

        int exchangedShares() {
            int count = 0;
            for (int player = 0; player < MOST_PLAYERS; player++) {
                count += held[player] / 2;
            }
            return count;
        }

        /** The president of before is asked first, so that only a player who holds more takes the place. */
        void findPresident() {
            int most = president == NONE ? 0 : held[president];
            int found = most > 0 ? president : NONE;
            for (int player = 0; player < MOST_PLAYERS; player++) {
                if (held[player] > most) {
                    most = held[player];
                    found = player;
                }
            }
            president = found;
        }

        void rise() {
            if (step < MOST_STEP) {
                step++;
            }
        }

        void fall() {
            if (step > 0) {
                step--;
            }
        }

        int number(int what) {
            switch (what) {
                case 1:
                    return home;
                case 2:
                    return cash;
                case 3:
                    return price();
                case 4:
                    return stops;
                case 5:
                    return president;
                case 6:
                    return bankShares();
                default:
                    return latest;
            }
        }
    }

    private static final class Land {
        final int[] worth = new int[TOWNS];
        final int[][] level = new int[TOWNS][TOWNS];

        Land() {
            for (int town = 0; town < TOWNS; town++) {
                worth[town] = 10 + 10 * (town % 4);
            }
        }

        void clearTracks() {
            for (int town = 0; town < TOWNS; town++) {
                Arrays.fill(level[town], 0);
            }
        }

        void copyFrom(Land other) {
            System.arraycopy(other.worth, 0, worth, 0, TOWNS);
            for (int town = 0; town < TOWNS; town++) {
                System.arraycopy(other.level[town], 0, level[town], 0, TOWNS);
            }
        }

        void setLevel(int one, int other, int newLevel) {
            level[one][other] = newLevel;
            level[other][one] = newLevel;
        }

        int tracks() {
            int count = 0;
            for (int a = 0; a < TOWNS; a++) {
                for (int b = a + 1; b < TOWNS; b++) {
                    count += level[a][b] > 0 ? 1 : 0;
                }
            }
            return count;
        }
    }

    /** Its rows are scratch paper and no part of the game, so one serves the game and all saved states. */
    private static final class RouteSearch {
        private static final int FAR = TOWNS;

        final int[] distance = new int[TOWNS];
        final int[] row = new int[MOST_STOPS];
        final int[] best = new int[MOST_STOPS];
        Land land;
        int homeBit;
        int stops;
        int bestLength;
        int bestIncome;

        /** Counts the tracks from the home to each town. */
        void measure(Land measured, int home) {
            Arrays.fill(distance, FAR);
            distance[home] = 0;
            boolean grown = true;
            for (int round = 1; round < FAR && grown; round++) {
                grown = false;
                for (int town = 0; town < TOWNS; town++) {
                    if (distance[town] == round - 1 && markNeighbours(measured.level[town], round)) {
                        grown = true;
                    }
                }
            }
        }

        private boolean markNeighbours(int[] levels, int round) {
            boolean marked = false;
            for (int town = 0; town < TOWNS; town++) {
                if (levels[town] > 0 && distance[town] == FAR) {
                    distance[town] = round;
                    marked = true;
                }
            }
            return marked;
        }

        boolean reached(int town) {
            return distance[town] < FAR;
        }

        void find(Land searched, int home, int mostTowns) {
            measure(searched, home);
            land = searched;
            homeBit = 1 << home;
            stops = Math.min(mostTowns, MOST_STOPS);
            bestLength = 0;
            bestIncome = NONE;
            for (int town = 0; town < TOWNS; town++) {
                grow(this, town, 0, 0, 0);
            }
        }

        int income() {
            return Math.max(bestIncome, 0);
        }

        int routeTown(int index) {
            return index >= 0 && index < bestLength ? best[index] : NONE;
        }

        /** Rows come in the order of their comparison, so only a greater income replaces the best one. */
        private static void grow(RouteSearch s, int town, int depth, int used, int income) {
            if (depth >= s.stops) {
                return;
            }
            int nowUsed = used | (1 << town);
            int left = s.stops - depth - 1;
            boolean hasHome = (nowUsed & s.homeBit) != 0;
            // A row that cannot come to the home any more is no beginning of a route.
            if (!hasHome && s.distance[town] > left) {
                return;
            }
            s.row[depth] = town;
            int nowIncome = income + s.land.worth[town];
            if (hasHome && depth > 0 && nowIncome > s.bestIncome) {
                s.keep(depth + 1, nowIncome);
            }
            int[] levels = s.land.level[town];
            for (int next = 0; next < TOWNS && left > 0; next++) {
                if (levels[next] > 0 && (nowUsed & (1 << next)) == 0) {
                    int extra = levels[next] == MOST_LEVEL ? GOOD_TRACK_INCOME : 0;
                    grow(s, next, depth + 1, nowUsed, nowIncome + extra);
                }
            }
        }

        private void keep(int length, int income) {
            System.arraycopy(row, 0, best, 0, length);
            bestLength = length;
            bestIncome = income;
        }
    }

    private static final class Script {
        private static final int MOVE = 0;
        private static final int BUY_COMPANY = 1;
        private static final int SELL_COMPANY = 2;
        private static final int SELL_SHARES = 3;
        private static final int TRACK_OR_END = 4;
        private static final int OTHER_TOWN = 5;
        private static final int END = 6;
        private static final int WRONG = 7;

        final int[] signs = new int[MOST_TEXT];
        int length;

        void add(int sign) {
            if (length < MOST_TEXT) {
                signs[length] = sign;
                length++;
            }
        }

        int sign(int at) {
            return at >= 0 && at < length ? signs[at] : NONE;
        }

        /** The digit there, or NONE if there is another sign or none. */
        int digit(int at) {
            int sign = sign(at);
            return isDigit(sign, '0', '9') ? sign - '0' : NONE;
        }

        int nextMove(int at) {
            int end = at;
            while (end < length && signs[end] != ';') {
                end++;
            }
            return end + 1;
        }

        int errorPosition() {
            int expected = MOVE;
            for (int at = 0; at < length; at++) {
                expected = behind(expected, signs[at], sign(at - 1));
                if (expected == WRONG) {
                    return at;
                }
            }
            return expected == MOVE ? NONE : length;
        }

        private static boolean isDigit(int sign, int lowest, int highest) {
            return sign >= lowest && sign <= highest;
        }

        private static int behind(int expected, int sign, int before) {
            switch (expected) {
                case MOVE:
                    return behindMoveSign(sign);
                case BUY_COMPANY:
                    return isDigit(sign, '0', '3') ? END : WRONG;
                case SELL_COMPANY:
                    return isDigit(sign, '0', '3') ? SELL_SHARES : WRONG;
                case SELL_SHARES:
                    return isDigit(sign, '1', '9') ? END : WRONG;
                case TRACK_OR_END:
                    return sign == ';' ? MOVE : isDigit(sign, '0', '7') ? OTHER_TOWN : WRONG;
                case OTHER_TOWN:
                    return isDigit(sign, '0', '7') && sign != before ? END : WRONG;
                default:
                    return sign == ';' ? MOVE : WRONG;
            }
        }

        private static int behindMoveSign(int sign) {
            switch (sign) {
                case 'b':
                    return BUY_COMPANY;
                case 'x':
                    return SELL_COMPANY;
                case 'p':
                    return END;
                case 'o':
                case 'k':
                    return TRACK_OR_END;
                default:
                    return WRONG;
            }
        }
    }
}
