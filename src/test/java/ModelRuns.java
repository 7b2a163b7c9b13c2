import java.util.ArrayDeque;
import java.util.ArrayList;
import java.util.Deque;
import java.util.List;
import java.util.Random;
import java.util.TreeMap;
import java.util.TreeSet;
import java.util.regex.Pattern;

/**
 * Runs of random calls (with fixed seeds) on the program and on a slow model, which is written from the document in
 * another way: every answer, every exception and the digest behind every call must be alike.
 */
public final class ModelRuns {
    private static final int RUNS = 400;
    /** The document tells nothing of an object behind its 512th call. */
    private static final int MOST_CALLS = 512;
    private static final int NONE = -1;

    /** What a call of the model throws: the program must throw that class. */
    private static final class Refused extends RuntimeException {
        private static final long serialVersionUID = 1L;
        final Class<?> kind;

        Refused(Class<?> kind) {
            this.kind = kind;
        }
    }

    private static void index(boolean bad) {
        if (bad) {
            throw new Refused(IndexOutOfBoundsException.class);
        }
    }

    private static void argument(boolean bad) {
        if (bad) {
            throw new Refused(IllegalArgumentException.class);
        }
    }

    private static void state(boolean bad) {
        if (bad) {
            throw new Refused(IllegalStateException.class);
        }
    }

    private static final class Firm {
        int home;
        int cash;
        int step;
        int stops = 2;
        int president = NONE;
        int latest;
        TreeMap<Integer, Integer> shares = new TreeMap<>();

        Firm copy() {
            Firm f = new Firm();
            f.home = home;
            f.cash = cash;
            f.step = step;
            f.stops = stops;
            f.president = president;
            f.latest = latest;
            f.shares = new TreeMap<>(shares);
            return f;
        }

        int price() {
            return 20 + step * 10;
        }

        int of(int player) {
            return shares.getOrDefault(player, 0);
        }

        int sold() {
            return shares.values().stream().mapToInt(i -> i).sum();
        }

        void give(int player, int count) {
            shares.put(player, of(player) + count);
        }

        void elect() {
            int most = shares.values().stream().mapToInt(i -> i).max().orElse(0);
            if (most == 0) {
                president = NONE;
            } else if (president == NONE || of(president) != most) {
                for (int player : shares.descendingKeySet()) {
                    if (of(player) == most) {
                        president = player;
                    }
                }
            }
        }
    }

    private static final class State {
        int[] towns = {10, 20, 30, 40, 10, 20, 30, 40};
        TreeMap<Integer, Integer> tracks = new TreeMap<>();
        Firm[] firms = new Firm[4];
        int[] cash;
        int turn;
        int passed;
        boolean operating;
        List<Integer> order = new ArrayList<>();
        boolean extended;
        int over;
        int bank;
        int closed;

        State(int players) {
            cash = new int[players];
            java.util.Arrays.fill(cash, 500);
        }

        State copy() {
            State s = new State(cash.length);
            s.towns = towns.clone();
            s.tracks = new TreeMap<>(tracks);
            for (int i = 0; i < 4; i++) {
                s.firms[i] = firms[i] == null ? null : firms[i].copy();
            }
            s.cash = cash.clone();
            s.turn = turn;
            s.passed = passed;
            s.operating = operating;
            s.order = new ArrayList<>(order);
            s.extended = extended;
            s.over = over;
            s.bank = bank;
            s.closed = closed;
            return s;
        }

        int level(int a, int b) {
            return tracks.getOrDefault(Math.min(a, b) * 10 + Math.max(a, b), 0);
        }

        void better(int a, int b) {
            tracks.put(Math.min(a, b) * 10 + Math.max(a, b), level(a, b) + 1);
        }

        TreeSet<Integer> joined(int home) {
            TreeSet<Integer> set = new TreeSet<>();
            set.add(home);
            for (int round = 0; round < 8; round++) {
                for (int track : tracks.keySet()) {
                    if (set.contains(track / 10) || set.contains(track % 10)) {
                        set.add(track / 10);
                        set.add(track % 10);
                    }
                }
            }
            return set;
        }

        boolean layable(Firm f, int a, int b) {
            TreeSet<Integer> joined = joined(f.home);
            return level(a, b) < 2 && f.cash >= 20 * (level(a, b) + 1) && (joined.contains(a) || joined.contains(b));
        }

        /** All rows of towns that are joined by tracks, as texts, whose own order is that of routes. */
        List<String> rows(int most) {
            int[][] levels = new int[8][8];
            tracks.forEach((track, level) -> {
                levels[track / 10][track % 10] = level;
                levels[track % 10][track / 10] = level;
            });
            List<String> all = new ArrayList<>();
            List<String> last = new ArrayList<>();
            for (int town = 0; town < 8; town++) {
                last.add(String.valueOf(town));
            }
            for (int length = 2; length <= most; length++) {
                List<String> next = new ArrayList<>();
                for (String row : last) {
                    for (int town = 0; town < 8; town++) {
                        if (levels[row.charAt(row.length() - 1) - '0'][town] > 0 && row.indexOf('0' + town) < 0) {
                            next.add(row + town);
                        }
                    }
                }
                all.addAll(next);
                last = next;
            }
            return all;
        }

        int incomeOfRow(String row) {
            int sum = 0;
            for (int i = 0; i < row.length(); i++) {
                sum += towns[row.charAt(i) - '0'];
                if (i > 0 && level(row.charAt(i - 1) - '0', row.charAt(i) - '0') == 2) {
                    sum += 5;
                }
            }
            return sum;
        }

        String best(Firm f) {
            String best = "";
            for (String row : rows(f.stops)) {
                if (row.indexOf('0' + f.home) >= 0) {
                    int gain = best.isEmpty() ? 1 : incomeOfRow(row) - incomeOfRow(best);
                    if (gain > 0 || gain == 0 && row.compareTo(best) < 0) {
                        best = row;
                    }
                }
            }
            return best;
        }

        int income(Firm f) {
            return incomeOfRow(best(f));
        }

        void next(boolean passes) {
            passed = passes ? passed + 1 : 0;
            turn = (turn + 1) % cash.length;
            if (passed == cash.length) {
                operating = true;
                for (int i = 0; i < 4; i++) {
                    if (firms[i] != null) {
                        order.add(i);
                    }
                }
                order.sort((a, b) -> firms[b].price() - firms[a].price());
                finish();
            }
        }

        void finish() {
            if (order.isEmpty()) {
                operating = false;
                passed = 0;
                over++;
            }
        }

        void trade(int player, int firm, int count) {
            cash[player] -= count * firms[firm].price();
            bank += count * firms[firm].price();
            firms[firm].give(player, count);
            if (count < 0) {
                firms[firm].step = Math.max(0, firms[firm].step - 1);
            }
            firms[firm].elect();
        }

        int operate(int a, int b, boolean pays) {
            int number = order.get(0);
            Firm f = firms[number];
            if (a != b) {
                better(a, b);
                f.cash -= 20 * level(a, b);
                bank += 20 * level(a, b);
            }
            int income = income(f);
            f.latest = income;
            if (pays) {
                for (int p = 0; p < cash.length; p++) {
                    cash[p] += income / 10 * f.of(p);
                    bank -= income / 10 * f.of(p);
                }
            } else {
                f.cash += income;
                bank -= income;
            }
            f.step = pays && income > 0 ? Math.min(11, f.step + 1) : Math.max(0, f.step - 1);
            upkeep(number, f);
            order.remove(0);
            extended = false;
            finish();
            return income;
        }

        void upkeep(int number, Firm f) {
            int due = 5 * f.stops;
            if (f.cash >= due) {
                f.cash -= due;
                bank += due;
                return;
            }
            int rest = due - f.cash;
            bank += f.cash;
            f.cash = 0;
            int p = f.president;
            while (p != NONE && cash[p] < rest) {
                int sale = NONE;
                for (int i = 3; i >= 0; i--) {
                    if (firms[i] != null && firms[i].of(p) > 0
                            && (sale == NONE || firms[i].price() <= firms[sale].price())) {
                        sale = i;
                    }
                }
                if (sale == NONE) {
                    break;
                }
                trade(p, sale, -1);
            }
            int paid = p == NONE ? 0 : Math.min(rest, cash[p]);
            if (p != NONE) {
                cash[p] -= paid;
                bank += paid;
            }
            if (paid < rest) {
                firms[number] = null;
                closed++;
            }
        }
    }

    private static final class Model {
        State s = new State(3);
        Deque<State> saved = new ArrayDeque<>();
        StringBuilder text = new StringBuilder();

        void save() {
            saved.addLast(s.copy());
            if (saved.size() > 4) {
                saved.removeFirst();
            }
        }

        int begin(int players) {
            argument(players < 2 || players > 4);
            save();
            State fresh = new State(players);
            fresh.towns = s.towns.clone();
            int before = s.over;
            s = fresh;
            return before;
        }

        int setTown(int town, int value) {
            index(town < 0 || town > 7);
            argument(value < 0 || value > 90);
            save();
            int before = s.towns[town];
            s.towns[town] = value;
            return before;
        }

        int start(int company, int home, int step) {
            index(company < 0 || company > 3 || home < 0 || home > 7);
            argument(step < 2 || step > 8);
            int price = 20 + 10 * step;
            state(s.operating || s.firms[company] != null || s.cash[s.turn] < 2 * price);
            save();
            Firm f = new Firm();
            f.home = home;
            f.step = step;
            f.cash = 5 * price;
            s.bank -= 5 * price;
            s.firms[company] = f;
            s.trade(s.turn, company, 2);
            s.next(false);
            return f.cash;
        }

        boolean buyable(int company) {
            Firm f = s.firms[company];
            return !s.operating && f != null && f.sold() < 10 && f.of(s.turn) < 6 && s.cash[s.turn] >= f.price();
        }

        int buy(int company) {
            index(company < 0 || company > 3);
            state(!buyable(company));
            save();
            int player = s.turn;
            s.trade(player, company, 1);
            s.next(false);
            return s.firms[company].of(player);
        }

        boolean sellable(int company, int shares) {
            return !s.operating && s.firms[company] != null && s.firms[company].of(s.turn) >= shares;
        }

        int sell(int company, int shares) {
            index(company < 0 || company > 3);
            argument(shares < 1 || shares > 10);
            state(!sellable(company, shares));
            save();
            s.trade(s.turn, company, -shares);
            return s.cash[s.turn];
        }

        int merge(int into, int from) {
            index(into < 0 || into > 3 || from < 0 || from > 3);
            argument(into == from);
            Firm a = s.firms[into];
            Firm b = s.firms[from];
            state(s.operating || a == null || b == null || a.president != s.turn || b.president != s.turn);
            int needed = 0;
            for (int p = 0; p < s.cash.length; p++) {
                needed += b.of(p) / 2;
            }
            state(10 - a.sold() < needed);
            save();
            for (int p = 0; p < s.cash.length; p++) {
                a.give(p, b.of(p) / 2);
                if (b.of(p) % 2 == 1) {
                    s.cash[p] += b.price() / 2;
                    s.bank -= b.price() / 2;
                }
            }
            a.cash += b.cash;
            s.firms[from] = null;
            a.elect();
            s.next(false);
            return a.cash;
        }

        int pass() {
            state(s.operating);
            save();
            s.next(true);
            return s.operating ? 1 : 0;
        }

        int extend() {
            state(!s.operating);
            Firm f = s.firms[s.order.get(0)];
            state(f.stops == 5 || s.extended || f.cash < 60);
            save();
            f.cash -= 60;
            s.bank += 60;
            s.extended = true;
            return ++f.stops;
        }

        boolean operable(int one, int other) {
            return s.operating && (one == NONE || s.layable(s.firms[s.order.get(0)], one, other));
        }

        int operate(int one, int other, boolean pays) {
            boolean none = one == NONE && other == NONE;
            index(!none && (one < 0 || one > 7 || other < 0 || other > 7));
            argument(!none && one == other);
            state(!operable(one, other));
            save();
            return s.operate(one, other, pays);
        }

        int player(int player, int what) {
            index(player < 0 || player >= s.cash.length);
            argument(what < 0 || what > 6);
            int worth = s.cash[player];
            int set = 0;
            for (int i = 0; i < 4; i++) {
                Firm f = s.firms[i];
                worth += f == null ? 0 : f.of(player) * f.price();
                set += f != null && f.president == player ? 1 << i : 0;
            }
            Firm f = what >= 1 && what <= 4 ? s.firms[what - 1] : null;
            return what == 0 ? s.cash[player] : what == 5 ? worth : what == 6 ? set : f == null ? 0 : f.of(player);
        }

        int company(int company, int what) {
            index(company < 0 || company > 3);
            argument(what < 0 || what > 8);
            Firm f = s.firms[company];
            if (f == null) {
                return what == 0 ? 0 : NONE;
            }
            int[] all = {1, f.home, f.cash, f.price(), f.stops, f.president, 10 - f.sold(), 0, f.latest};
            return what == 7 ? s.income(f) : all[what];
        }

        int track(int one, int other) {
            index(one < 0 || one > 7 || other < 0 || other > 7);
            return s.level(one, other);
        }

        int value(int what) {
            argument(what < 0 || what > 9);
            int open = 0;
            for (Firm f : s.firms) {
                open += f == null ? 0 : 1;
            }
            int[] all = {s.cash.length, s.turn, s.passed, s.operating ? 1 : 0, s.operating ? s.order.get(0) : NONE,
                s.over, s.bank, s.tracks.size(), open, s.closed};
            return all[what];
        }

        int town(int town) {
            index(town < 0 || town > 7);
            return s.towns[town];
        }

        int route(int company, int place) {
            index(company < 0 || company > 3 || place < 0);
            String best = s.firms[company] == null ? "" : s.best(s.firms[company]);
            return place < best.length() ? best.charAt(place) - '0' : NONE;
        }

        int incomeWith(int company, int one, int other) {
            index(company < 0 || company > 3 || one < 0 || one > 7 || other < 0 || other > 7);
            argument(one == other);
            if (s.firms[company] == null || s.level(one, other) == 2) {
                return NONE;
            }
            State t = s.copy();
            t.better(one, other);
            return t.income(t.firms[company]);
        }

        int bestTrack(int company) {
            index(company < 0 || company > 3);
            int best = NONE;
            int most = NONE;
            for (int number = 77; number >= 0; number--) {
                int a = number / 10;
                int b = number % 10;
                if (a < b && b < 8 && s.firms[company] != null && s.layable(s.firms[company], a, b)) {
                    int income = incomeWith(company, a, b);
                    best = income >= most ? number : best;
                    most = Math.max(most, income);
                }
            }
            return best;
        }

        int dividend(int company) {
            index(company < 0 || company > 3);
            return s.firms[company] == null ? 0 : s.income(s.firms[company]) / 10;
        }

        int leader() {
            int best = s.cash.length - 1;
            for (int p = best; p >= 0; p--) {
                best = player(p, 5) >= player(best, 5) ? p : best;
            }
            return best;
        }

        double unsold() {
            int bank = 0;
            int open = 0;
            for (Firm f : s.firms) {
                bank += f == null ? 0 : 10 - f.sold();
                open += f == null ? 0 : 1;
            }
            return open == 0 ? 0.0 : (double) bank / (10.0 * open);
        }

        int append(int value) {
            argument(value < 0 || value > 127);
            state(text.length() == 90);
            text.append((char) value);
            return text.length();
        }

        int clearText() {
            int length = text.length();
            text.setLength(0);
            return length;
        }

        private static final String PAIR =
                "(0[1-7]|1[02-7]|2[013-7]|3[0-24-7]|4[0-35-7]|5[0-46-7]|6[0-57]|7[0-6])";
        private static final String MOVE = "(b[0-3];|x[0-3][1-9];|p;|[ok]" + PAIR + "?;)";
        private static final Pattern BEGINNING =
                Pattern.compile(MOVE + "*(|b[0-3]?|x([0-3][1-9]?)?|p|[ok]([0-7]|" + PAIR + ")?)", Pattern.DOTALL);
        private static final Pattern WHOLE = Pattern.compile(MOVE + "*");

        int play() {
            for (int length = 1; length <= text.length(); length++) {
                if (!BEGINNING.matcher(text.substring(0, length)).matches()) {
                    return -10 - (length - 1);
                }
            }
            if (!WHOLE.matcher(text).matches()) {
                return -10 - text.length();
            }
            save();
            int made = 0;
            for (String move : text.toString().split(";")) {
                if (move.isEmpty() || !make(move)) {
                    break;
                }
                made++;
            }
            return made;
        }

        private boolean make(String move) {
            int first = move.length() > 1 ? move.charAt(1) - '0' : NONE;
            int second = move.length() > 2 ? move.charAt(2) - '0' : NONE;
            boolean can = move.charAt(0) == 'b' ? buyable(first)
                    : move.charAt(0) == 'x' ? sellable(first, second)
                    : move.charAt(0) == 'p' ? !s.operating : operable(first, second);
            if (can) {
                switch (move.charAt(0)) {
                    case 'b':
                        s.trade(s.turn, first, 1);
                        s.next(false);
                        break;
                    case 'x':
                        s.trade(s.turn, first, -second);
                        break;
                    case 'p':
                        s.next(true);
                        break;
                    default:
                        s.operate(first, second, move.charAt(0) == 'o');
                }
            }
            return can;
        }

        int undo() {
            state(saved.isEmpty());
            s = saved.removeLast();
            return saved.size();
        }

        long digest() {
            List<Integer> all = new ArrayList<>();
            all.add(text.length());
            for (int what = 0; what < 10; what++) {
                all.add(value(what));
            }
            for (int p = 0; p < s.cash.length; p++) {
                for (int what = 0; what < 7; what++) {
                    all.add(player(p, what));
                }
            }
            for (int c = 0; c < 4; c++) {
                for (int what = 0; what < 9; what++) {
                    all.add(company(c, what));
                }
            }
            for (int a = 0; a < 8; a++) {
                for (int b = a + 1; b < 8; b++) {
                    all.add(track(a, b));
                }
            }
            for (int town : s.towns) {
                all.add(town);
            }
            all.add(saved.size());
            long h = 3583;
            for (int v : all) {
                h = 31 * h + v;
            }
            return h;
        }
    }

    private interface Asked {
        double answer();
    }

    private static String answer(Asked asked) {
        try {
            return String.valueOf(asked.answer());
        } catch (Refused e) {
            return e.kind.getName();
        } catch (RuntimeException e) {
            return e.getClass().getName();
        }
    }

    private static final Random random = new Random();
    private static final TreeMap<String, Integer> seen = new TreeMap<>();
    private static int wrong = 0;
    private static int run = 0;
    private static int calls = 0;

    /** Mostly a number from 0 to count - 1, seldom one that is out of range. */
    private static int any(int count) {
        int n = random.nextInt(count + 40);
        return n < count ? n : n == count ? -1 : n == count + 1 ? count : n == count + 2 ? Integer.MAX_VALUE
                : n == count + 3 ? Integer.MIN_VALUE : random.nextInt(count);
    }

    private static void alike(String call, Asked program, Asked model) {
        if (calls >= MOST_CALLS || wrong >= 20) {
            return;
        }
        calls++;
        String got = answer(program);
        String want = answer(model);
        String name = call.substring(0, call.indexOf('('));
        seen.merge(name + (want.startsWith("java") ? " throws " + want : ""), 1, Integer::sum);
        if (!got.equals(want)) {
            wrong++;
            System.out.println("run " + run + ": " + call + " answered " + got + ", due is " + want);
        }
    }

    private static void appendMoves(StockLines x, Model m) {
        int moves = random.nextInt(12);
        StringBuilder text = new StringBuilder();
        for (int i = 0; i < moves; i++) {
            int town = random.nextInt(8);
            int second = random.nextInt(12) == 0 ? town : (town + 1 + random.nextInt(7)) % 8;
            String pair = random.nextInt(2) == 0 ? "" : "" + town + second;
            String[] kinds = {"p", "p", "p", "b" + random.nextInt(4), "x" + random.nextInt(4) + (1 + random.nextInt(3)),
                "o" + pair, "k" + pair, "o"};
            text.append(kinds[random.nextInt(kinds.length)]).append(';');
        }
        if (random.nextInt(3) == 0 && text.length() > 0) {
            int at = random.nextInt(text.length());
            String signs = "bxpok;0123456789 qB\u0000\u007f\n";
            switch (random.nextInt(3)) {
                case 0:
                    text.setCharAt(at, signs.charAt(random.nextInt(signs.length())));
                    break;
                case 1:
                    text.deleteCharAt(at);
                    break;
                default:
                    text.setLength(at);
            }
        }
        for (int i = 0; i < text.length(); i++) {
            int sign = text.charAt(i);
            alike("append(" + sign + ")", () -> x.append(sign), () -> m.append(sign));
        }
    }

    private static void changeCall(StockLines x, Model m) {
        int c = any(4);
        int d = any(4);
        int a = any(8);
        int b = any(8);
        int n = random.nextInt(100);
        if (n < 3 && random.nextInt(3) == 0) {
            int players = 1 + random.nextInt(5);
            alike("begin(" + players + ")", () -> x.begin(players), () -> m.begin(players));
        } else if (n < 9) {
            int value = random.nextInt(3) == 0 ? 0 : any(91);
            alike("setTown(" + a + ", " + value + ")", () -> x.setTown(a, value), () -> m.setTown(a, value));
        } else if (n < 22) {
            int step = random.nextInt(3) == 0 ? any(11) : 2 + random.nextInt(7);
            alike("start(" + c + ", " + a + ", " + step + ")", () -> x.start(c, a, step), () -> m.start(c, a, step));
        } else if (n < 40) {
            alike("buy(" + c + ")", () -> x.buy(c), () -> m.buy(c));
        } else if (n < 52) {
            int shares = random.nextInt(4) == 0 ? any(12) : 1 + random.nextInt(3);
            alike("sell(" + c + ", " + shares + ")", () -> x.sell(c, shares), () -> m.sell(c, shares));
        } else if (n < 62) {
            alike("merge(" + c + ", " + d + ")", () -> x.merge(c, d), () -> m.merge(c, d));
        } else if (n < 80) {
            alike("pass()", x::pass, m::pass);
        } else if (n < 85) {
            alike("undo()", x::undo, m::undo);
        } else if (n < 90) {
            appendMoves(x, m);
            alike("play()", x::play, m::play);
            if (random.nextInt(4) > 0) {
                alike("clearText()", x::clearText, m::clearText);
            }
        } else {
            alike("operate(" + a + ", " + b + ")", () -> x.operate(a, b, true), () -> m.operate(a, b, true));
        }
    }

    private static void operatingCall(StockLines x, Model m) {
        boolean pays = random.nextInt(3) > 0;
        int n = random.nextInt(100);
        if (n < 20) {
            alike("extend()", x::extend, m::extend);
        } else if (n < 40) {
            alike("operate(NONE, NONE, " + pays + ")", () -> x.operate(-1, -1, pays), () -> m.operate(-1, -1, pays));
        } else if (n < 60) {
            int best = m.bestTrack(m.value(4));
            int a = best == NONE ? NONE : best % 10;
            int b = best == NONE ? NONE : best / 10;
            alike("operate(" + a + ", " + b + ")", () -> x.operate(a, b, pays), () -> m.operate(a, b, pays));
        } else if (n < 88) {
            int a = any(8);
            int b = any(8);
            alike("operate(" + a + ", " + b + ")", () -> x.operate(a, b, pays), () -> m.operate(a, b, pays));
        } else {
            changeCall(x, m);
        }
    }

    private static void ask(StockLines x, Model m) {
        int c = any(4);
        int a = any(8);
        int b = any(8);
        int what = any(10);
        switch (random.nextInt(11)) {
            case 0:
                alike("player(" + c + ", " + what + ")", () -> x.player(c, what), () -> m.player(c, what));
                break;
            case 1:
                alike("company(" + c + ", " + what + ")", () -> x.company(c, what), () -> m.company(c, what));
                break;
            case 2:
                alike("track(" + a + ", " + b + ")", () -> x.track(a, b), () -> m.track(a, b));
                break;
            case 3:
                alike("value(" + what + ")", () -> x.value(what), () -> m.value(what));
                break;
            case 4:
                alike("town(" + a + ")", () -> x.town(a), () -> m.town(a));
                break;
            case 5:
                int place = any(6);
                alike("route(" + c + ", " + place + ")", () -> x.route(c, place), () -> m.route(c, place));
                break;
            case 6:
                alike("incomeWith(" + c + ", " + a + ", " + b + ")", () -> x.incomeWith(c, a, b),
                        () -> m.incomeWith(c, a, b));
                break;
            case 7:
                alike("bestTrack(" + c + ")", () -> x.bestTrack(c), () -> m.bestTrack(c));
                break;
            case 8:
                alike("dividend(" + c + ")", () -> x.dividend(c), () -> m.dividend(c));
                break;
            case 9:
                alike("leader()", x::leader, m::leader);
                break;
            default:
                alike("unsold()", x::unsold, m::unsold);
        }
    }

    private static void wholeRoute(StockLines x, Model m) {
        int c = random.nextInt(4);
        for (int i = 0; i < 6; i++) {
            int place = i;
            alike("route(" + c + ", " + place + ")", () -> x.route(c, place), () -> m.route(c, place));
        }
    }

    private static void sameDigest(StockLines x, Model m) {
        if (calls < MOST_CALLS && x.digest() != m.digest()) {
            wrong++;
            System.out.println("run " + run + ": the digests differ");
        }
        calls++;
    }

    /** All that brings players and companies to their last money: shares as dear as can be, stops, and tracks. */
    private static void spend(StockLines x, Model m) {
        int c = random.nextInt(4);
        int step = 2 + random.nextInt(7);
        if (m.s.operating) {
            int home = m.company(m.value(4), 1);
            int town = random.nextInt(8);
            boolean lays = m.operable(home, town) && home != town;
            int a = lays ? home : NONE;
            int b = lays ? town : NONE;
            boolean pays = random.nextInt(4) > 0;
            if (random.nextInt(2) == 0) {
                alike("extend()", x::extend, m::extend);
            }
            alike("operate(" + a + ", " + b + ")", () -> x.operate(a, b, pays), () -> m.operate(a, b, pays));
        } else if (m.s.firms[c] == null && m.s.cash[m.s.turn] >= 40 + 20 * step) {
            alike("start(" + c + ", " + c + ", " + step + ")", () -> x.start(c, c, step), () -> m.start(c, c, step));
        } else if (m.buyable(c)) {
            alike("buy(" + c + ")", () -> x.buy(c), () -> m.buy(c));
        } else {
            alike("pass()", x::pass, m::pass);
        }
    }

    /** Worthless companies of five stops live on their presidents' money, until there is none, or no president. */
    private static void ruin(StockLines x, Model m) {
        int c = random.nextInt(4);
        boolean pays = random.nextBoolean();
        if (m.s.operating && m.company(m.value(4), 4) < 5 && m.company(m.value(4), 2) >= 60 && !m.s.extended) {
            alike("extend()", x::extend, m::extend);
        } else if (m.s.operating) {
            alike("operate(NONE, NONE, " + pays + ")", () -> x.operate(-1, -1, pays), () -> m.operate(-1, -1, pays));
        } else if (m.s.firms[c] == null && m.s.cash[m.s.turn] >= 100 && random.nextInt(3) == 0) {
            // The least price with which three stops can be paid.
            alike("start(" + c + ", " + c + ", 3)", () -> x.start(c, c, 3), () -> m.start(c, c, 3));
        } else if (m.player(m.s.turn, c + 1) > 1 && random.nextInt(6) == 0) {
            alike("sell(" + c + ", 1)", () -> x.sell(c, 1), () -> m.sell(c, 1));
        } else {
            alike("pass()", x::pass, m::pass);
        }
    }

    private static void mergeOwn(StockLines x, Model m) {
        for (int a = 0; a < 4; a++) {
            for (int b = 0; b < 4; b++) {
                int into = a;
                int from = b;
                if (a != b && m.company(a, 5) == m.s.turn && m.company(b, 5) == m.s.turn) {
                    alike("merge(" + a + ", " + b + ")", () -> x.merge(into, from), () -> m.merge(into, from));
                    return;
                }
            }
        }
    }

    private static void sellOwn(StockLines x, Model m) {
        int c = random.nextInt(4);
        int held = m.player(m.s.turn, c + 1);
        int shares = random.nextInt(3) == 0 ? held + random.nextInt(2) : 1;
        alike("sell(" + c + ", " + shares + ")", () -> x.sell(c, shares), () -> m.sell(c, shares));
    }

    private static void oneRun() {
        random.setSeed(run);
        calls = 0;
        boolean poor = run % 4 == 1;
        boolean merging = run % 4 == 2;
        boolean ruined = run % 4 == 3;
        StockLines x = new StockLines();
        Model m = new Model();
        int players = 2 + run / 4 % 3;
        alike("begin(" + players + ")", () -> x.begin(players), () -> m.begin(players));
        for (int i = 0; i < 8 && (poor || ruined); i++) {
            int town = i;
            int value = random.nextInt(8);
            alike("setTown(" + town + ", " + value + ")", () -> x.setTown(town, value), () -> m.setTown(town, value));
        }
        while (calls < MOST_CALLS && wrong < 20) {
            if (ruined && random.nextInt(40) > 0) {
                ruin(x, m);
            } else if (merging && random.nextInt(12) == 0) {
                mergeOwn(x, m);
            } else if (random.nextInt(16) == 0) {
                sellOwn(x, m);
            } else if ((poor || merging) && random.nextInt(12) > 0) {
                spend(x, m);
            } else if (m.s.operating) {
                operatingCall(x, m);
            } else if (random.nextInt(4) == 0) {
                alike("pass()", x::pass, m::pass);
            } else {
                changeCall(x, m);
            }
            if (random.nextInt(3) == 0) {
                ask(x, m);
            }
            if (random.nextInt(10) == 0) {
                wholeRoute(x, m);
            }
            sameDigest(x, m);
        }
    }

    public static void main(String[] args) {
        for (run = 0; run < RUNS && wrong < 20; run++) {
            oneRun();
        }
        if (args.length > 0) {
            System.out.println(seen);
        }
        System.out.println(wrong == 0 ? run + " runs are like the model's" : wrong + " answers are not like the model's");
        if (wrong != 0) {
            System.exit(1);
        }
    }
}
