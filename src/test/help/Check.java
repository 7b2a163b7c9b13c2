import java.io.IOException;
import java.lang.annotation.Retention;
import java.lang.annotation.RetentionPolicy;
import java.lang.reflect.InvocationTargetException;
import java.lang.reflect.Method;
import java.nio.file.Files;
import java.nio.file.Path;
import java.util.TreeMap;
import java.util.function.Consumer;
import java.util.function.Supplier;

/** What the tests have in common: how an answer is looked at, and games that stand just at a boundary. */
abstract class Check {
    static final Class<?> INDEX = IndexOutOfBoundsException.class;
    static final Class<?> ARGUMENT = IllegalArgumentException.class;
    static final Class<?> STATE = IllegalStateException.class;
    static final int NONE = StockLines.NONE;

    static int wrong = 0;
    static String label = "";

    /** The sentence of the document that a test is for, word by word, and the section in which it stands. */
    @Retention(RetentionPolicy.RUNTIME)
    @interface Says {
        String in();

        String value();
    }

    // ---- running

    /** Runs every method that bears a sentence; the property "document" tells where the document is looked up. */
    static void runSentences(Class<?> tests) throws IOException {
        TreeMap<String, Method> all = new TreeMap<>();
        for (Method m : tests.getDeclaredMethods()) {
            if (m.isAnnotationPresent(Says.class)) {
                all.put(m.getName(), m);
            }
        }
        String path = System.getProperty("document");
        String document = path == null ? null : Files.readString(Path.of(path));
        for (Method m : all.values()) {
            Says says = m.getAnnotation(Says.class);
            label = tests.getSimpleName() + "." + m.getName() + " (" + says.value() + ")";
            if (document != null && !section(document, says.in()).contains(says.value())) {
                wrong++;
                System.out.println(label + ": is not in the section " + says.in());
            }
            runOne(m);
        }
        end(all.size());
    }

    private static void runOne(Method m) {
        m.setAccessible(true);
        try {
            m.invoke(null);
        } catch (InvocationTargetException e) {
            brokenOff(e.getCause());
        } catch (IllegalAccessException e) {
            brokenOff(e);
        }
    }

    static void brokenOff(Throwable e) {
        wrong++;
        System.out.println(label + ": broken off by " + e);
        for (StackTraceElement line : e.getStackTrace()) {
            if (line.getModuleName() == null) {
                System.out.println("    " + line);
            }
        }
    }

    static void end(int tests) {
        System.out.println(wrong == 0 ? tests + " tests hold" : wrong + " answers are not as due");
        if (wrong != 0 || tests == 0) {
            System.exit(1);
        }
    }

    private static String section(String document, String name) {
        int from = document.indexOf("\n## " + name + "\n");
        int to = from < 0 ? NONE : document.indexOf("\n## ", from + 1);
        return from < 0 ? "" : to < 0 ? document.substring(from) : document.substring(from, to);
    }

    // ---- looking at answers

    static void same(String what, long got, long want) {
        if (got != want) {
            wrong++;
            System.out.println(label + ": " + what + " answered " + got + ", due is " + want);
        }
    }

    static void alike(String what, Object got, Object want) {
        if (!String.valueOf(got).equals(String.valueOf(want))) {
            wrong++;
            System.out.println(label + ": " + what + ":\n    " + got + "\n    due is\n    " + want);
        }
    }

    static Class<?> thrown(StockLines x, Consumer<StockLines> call) {
        try {
            call.accept(x);
            return null;
        } catch (RuntimeException e) {
            return e.getClass();
        }
    }

    static void fails(String what, Class<?> kind, StockLines x, Consumer<StockLines> call) {
        long before = x.digest();
        alike(what + " throws", thrown(x, call), kind);
        same("digest after " + what, x.digest(), before);
    }

    /** The call throws, and its game cannot be told from one without the call, neither back nor on. */
    static void refused(String what, Class<?> kind, Supplier<StockLines> scene, Consumer<StockLines> call) {
        StockLines back = scene.get();
        StockLines on = scene.get();
        alike(what + " throws", thrown(back, call), kind);
        thrown(on, call);
        alike("all states behind " + what, wayBack(back), wayBack(scene.get()));
        alike("the game behind " + what, wayOn(on), wayOn(scene.get()));
    }

    static void accepted(String what, Supplier<StockLines> scene, Consumer<StockLines> call) {
        alike(what + " throws", thrown(scene.get(), call), null);
    }

    /** The call is made, and nothing can be told from a game without it. */
    static void asksOnly(String what, Supplier<StockLines> scene, Consumer<StockLines> call) {
        refused(what, null, scene, call);
    }

    static String wayBack(StockLines x) {
        StringBuilder seen = new StringBuilder().append(x.digest());
        while (thrown(x, StockLines::undo) == null) {
            seen.append(' ').append(x.digest());
        }
        return seen.append(' ').append(x.clearText()).toString();
    }

    static String wayOn(StockLines x) {
        StringBuilder seen = new StringBuilder().append(x.digest());
        for (int step = 0; step < 16; step++) {
            if (x.value(3) == 0) {
                seen.append(" pass ").append(x.pass());
            } else {
                seen.append(thrown(x, StockLines::extend) == null ? " extended" : "");
                seen.append(" operate ").append(x.operate(NONE, NONE, true));
            }
            seen.append(' ').append(x.digest());
        }
        return seen.append(" play ").append(x.play()).append(' ').append(x.digest()).toString();
    }

    static int savedStates(StockLines x) {
        int count = 0;
        while (thrown(x, StockLines::undo) == null) {
            count++;
        }
        return count;
    }

    /** The digest that is due, with a text of that length and so many saved states. */
    static long hash(StockLines x, int length, int states) {
        long h = 31L * 3583 + length;
        for (int what = 0; what <= 9; what++) {
            h = 31 * h + x.value(what);
        }
        for (int player = 0; player < x.value(0); player++) {
            for (int what = 0; what <= 6; what++) {
                h = 31 * h + x.player(player, what);
            }
        }
        for (int company = 0; company < 4; company++) {
            for (int what = 0; what <= 8; what++) {
                h = 31 * h + x.company(company, what);
            }
        }
        for (int a = 0; a < 8; a++) {
            for (int b = a + 1; b < 8; b++) {
                h = 31 * h + x.track(a, b);
            }
        }
        for (int town = 0; town < 8; town++) {
            h = 31 * h + x.town(town);
        }
        return 31 * h + states;
    }

    static void routeIs(StockLines x, int company, int... towns) {
        for (int i = 0; i < towns.length; i++) {
            same("route town " + i, x.route(company, i), towns[i]);
        }
        same("behind the route", x.route(company, towns.length), NONE);
    }

    // ---- steps of a game

    static StockLines game(int players) {
        StockLines x = new StockLines();
        x.begin(players);
        return x;
    }

    static void passes(StockLines x, int times) {
        for (int i = 0; i < times; i++) {
            x.pass();
        }
    }

    static void write(StockLines x, String text) {
        x.clearText();
        for (int i = 0; i < text.length(); i++) {
            x.append(text.charAt(i));
        }
    }

    static int played(StockLines x, String text) {
        write(x, text);
        return x.play();
    }

    static void towns(StockLines x, int... values) {
        for (int town = 0; town < values.length; town++) {
            x.setTown(town, values[town]);
        }
    }

    static void worthless(StockLines x) {
        towns(x, 0, 0, 0, 0, 0, 0, 0, 0);
    }

    static void endPhase(StockLines x, boolean pays) {
        while (x.value(3) == 1) {
            x.operate(NONE, NONE, pays);
        }
    }

    /** All pass; company 0 lays that track, and all companies operate. */
    static void round(StockLines x, int one, int other, boolean pays) {
        passes(x, x.value(0));
        while (x.value(3) == 1) {
            boolean first = x.value(4) == 0;
            x.operate(first ? one : NONE, first ? other : NONE, pays);
        }
    }

    // ---- games at a boundary

    /** 3 players; company 0 (player 0's, at town 0, price 100, cash 500) is next to operate. */
    static StockLines operating() {
        StockLines x = new StockLines();
        x.start(0, 0, 8);
        passes(x, 3);
        return x;
    }

    /**
     * 2 players, stock phase, player 1 is next: player 0 has 420 of cash and two shares of company 0, which has tracks
     * from its home 0 to the towns 1 to 6, so many stops, the price 20, and just that cash. All towns are worthless.
     */
    static StockLines poor(int stops, int cash) {
        StockLines x = game(2);
        x.start(0, 0, 2);
        worthless(x);
        x.setTown(1, 15 * (stops - 2));
        for (int town = 1; town <= 6; town++) {
            passes(x, 2);
            if (x.company(0, 4) < stops) {
                x.extend();
            }
            x.operate(0, town, false);
        }
        while (x.company(0, 2) != cash) {
            int left = x.company(0, 2) - 5 * stops;
            x.setTown(1, Math.min(90, Math.max(0, cash - left)));
            round(x, NONE, NONE, false);
        }
        x.setTown(1, 0);
        return x;
    }

    /** As poor, but company 0 is next to operate. */
    static StockLines poorsTurn(int stops, int cash) {
        StockLines x = poor(stops, cash);
        passes(x, 2);
        return x;
    }

    /** As poor, but player 0 sells so many shares before company 0 is next to operate. */
    static StockLines poorSold(int stops, int cash, int shares) {
        StockLines x = poor(stops, cash);
        x.pass();
        x.sell(0, shares);
        x.pass();
        return x;
    }

    /** Company 0, which has no cash, lets player 0 pay for it until this player has just that cash. */
    static void presidentPaysDownTo(StockLines x, int cash) {
        int upkeep = 5 * x.company(0, 4);
        while (x.player(0, 0) > cash) {
            x.setTown(1, upkeep - Math.min(upkeep, x.player(0, 0) - cash));
            round(x, NONE, NONE, false);
        }
        x.setTown(1, 0);
    }

    /**
     * 2 players, player 1 is next: as poor with 2 stops and without cash, but the price of company 0 is 120. Towns are
     * worthless, so that it falls to 110 when the company operates.
     */
    static StockLines dear() {
        StockLines x = game(2);
        x.start(0, 0, 2);
        worthless(x);
        x.setTown(1, 1);
        for (int i = 1; i <= 8; i++) {
            round(x, i <= 6 ? 0 : NONE, i <= 6 ? i : NONE, true);
        }
        x.setTown(1, 0);
        return x;
    }

    /** 2 players; player 0 is next, and has all shares of company 0, by mergers; its price is 40. */
    static StockLines tenShares() {
        StockLines x = game(2);
        x.start(0, 0, 2);
        x.start(1, 0, 2);
        x.pass();
        x.sell(1, 1);
        x.sell(1, 1);
        x.start(2, 0, 2);
        x.buy(0);
        x.sell(2, 1);
        x.sell(2, 1);
        x.pass();
        int[] bought = {0, 0, 0, 1, 1, 1, 1, 1, 1, 2, 2};
        for (int company : bought) {
            x.buy(company);
            x.pass();
        }
        x.merge(0, 1);
        x.pass();
        x.merge(0, 2);
        x.pass();
        same("shares", x.player(0, 1), 10);
        return x;
    }
}
