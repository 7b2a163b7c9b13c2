import java.lang.reflect.Constructor;
import java.lang.reflect.Field;
import java.lang.reflect.Method;
import java.lang.reflect.Modifier;
import java.util.ArrayList;
import java.util.List;
import java.util.TreeSet;

/** The class has the document's face, exceptions too, and nothing else that can be seen from outside. */
public final class FaceTest {
    private static final String INDEX = "IndexOutOfBoundsException";
    private static final String ARGUMENT = "IllegalArgumentException";
    private static final String STATE = "IllegalStateException";

    private static final String[] DUE = {
        "int begin(int) " + ARGUMENT,
        "int setTown(int,int) " + INDEX + " " + ARGUMENT,
        "int start(int,int,int) " + INDEX + " " + ARGUMENT + " " + STATE,
        "int buy(int) " + INDEX + " " + STATE,
        "int sell(int,int) " + INDEX + " " + ARGUMENT + " " + STATE,
        "int merge(int,int) " + INDEX + " " + ARGUMENT + " " + STATE,
        "int pass() " + STATE,
        "int extend() " + STATE,
        "int operate(int,int,boolean) " + INDEX + " " + ARGUMENT + " " + STATE,
        "int player(int,int) " + INDEX + " " + ARGUMENT,
        "int company(int,int) " + INDEX + " " + ARGUMENT,
        "int track(int,int) " + INDEX,
        "int value(int) " + ARGUMENT,
        "int town(int) " + INDEX,
        "int route(int,int) " + INDEX,
        "int incomeWith(int,int,int) " + INDEX + " " + ARGUMENT,
        "int bestTrack(int) " + INDEX,
        "int dividend(int) " + INDEX,
        "int leader()",
        "double unsold()",
        "int append(int) " + ARGUMENT + " " + STATE,
        "int clearText()",
        "int play()",
        "int undo() " + STATE,
        "long digest()",
        "StockLines()",
        "int NONE",
        "class",
    };

    private static String names(Class<?>[] types, String between) {
        List<String> names = new ArrayList<>();
        for (Class<?> type : types) {
            names.add(type.getSimpleName());
        }
        return String.join(between, names);
    }

    public static void main(String[] args) {
        TreeSet<String> seen = new TreeSet<>();
        TreeSet<String> hidden = new TreeSet<>();
        for (Method m : StockLines.class.getDeclaredMethods()) {
            String text = m.getReturnType().getSimpleName() + " " + m.getName() + "(" + names(m.getParameterTypes(), ",")
                    + ") " + names(m.getExceptionTypes(), " ");
            if (Modifier.isPrivate(m.getModifiers())) {
                hidden.add(m.getName());
            } else {
                seen.add((m.getModifiers() == Modifier.PUBLIC ? "" : "modifiers! ") + text.trim());
            }
        }
        for (Constructor<?> c : StockLines.class.getDeclaredConstructors()) {
            seen.add(c.getName() + "(" + names(c.getParameterTypes(), ",") + ")");
        }
        for (Field f : StockLines.class.getDeclaredFields()) {
            if (!Modifier.isPrivate(f.getModifiers())) {
                seen.add(f.getType().getSimpleName() + " " + f.getName());
            }
        }
        seen.add(StockLines.class.getModifiers() == (Modifier.PUBLIC | Modifier.FINAL) ? "class" : "class modifiers!");
        TreeSet<String> due = new TreeSet<>(List.of(DUE));
        boolean right = seen.equals(due);
        for (String text : due) {
            right &= !hidden.contains(text.replaceAll("^\\w+ |\\(.*", ""));
        }
        if (!right) {
            System.out.println("seen: " + seen + "\nhidden: " + hidden + "\ndue: " + due);
            System.exit(1);
        }
        System.out.println("the face is the document's");
    }
}
