import java.lang.reflect.InvocationTargetException;
import java.lang.reflect.Method;
import java.lang.reflect.Modifier;
import java.util.ArrayList;
import java.util.Arrays;
import java.util.Comparator;
import java.util.HashMap;
import java.util.List;
import java.util.Map;
import java.util.Random;

/**
 * Runs of calls by the dice on SlowPanes and on the Model: each answer is the same, and so is, now and then,
 * all that can be asked. A call that is refused is followed by that always: it must have changed nothing.
 */
final class ModelTest {
    private static final int RUNS = 100;
    private static final int CALLS = 400;
    private static final String[] PIECES = {
        "pane", "thick", "double", "dark", "rippled", "mirror", "view", "love", "today", "at", "from", ";", ";", ":",
        ",", "0", "1", "2", "3", "4", "7", "9", "10", "16", "17", "49", "50", "51", "99", "100", "007", " ", "  ",
        "x", "A", "\u00e9", "-"};
    private static final List<Method> OWN = methods(SlowPanes.class, Modifier.PUBLIC);
    private static final Map<String, Method> BY_NAME = byName(OWN);
    private static final Map<String, Method> THEIRS = byName(methods(Model.class, 0));

    private ModelTest() {
    }

    static void run() {
        for (int run = 0; run < RUNS; run++) {
            compare(run);
        }
    }

    private static List<Method> methods(Class<?> type, int modifiers) {
        List<Method> found = new ArrayList<>();
        for (Method method : type.getDeclaredMethods()) {
            if (method.getModifiers() == modifiers && !method.isSynthetic()) {
                found.add(method);
            }
        }
        found.sort(Comparator.comparing(Method::getName));
        return found;
    }

    private static Map<String, Method> byName(List<Method> methods) {
        Map<String, Method> named = new HashMap<>();
        for (Method method : methods) {
            named.put(method.getName(), method);
        }
        return named;
    }

    private static void compare(int run) {
        Random dice = new Random(run);
        SlowPanes panes = new SlowPanes();
        Model model = new Model();
        boolean shy = dice.nextInt(8) > 0;
        for (int call = 0; call < CALLS; call++) {
            if (dice.nextInt(25) == 0) {
                String text = text(dice);
                for (int from = 0; from < text.length(); from += 8) {
                    int n = Math.min(8, text.length() - from);
                    long eight = Check.eight(text.substring(from, from + n));
                    same(run, call, panes, model, "feed", eight, n);
                }
                same(run, call, panes, model, "quarry");
            }
            Method method = OWN.get(dice.nextInt(OWN.size()));
            if (shy && method.getName().equals("days") && dice.nextInt(3) > 0) {
                same(run, call, panes, model, "days", 1 + dice.nextInt(3));
                continue;
            }
            Object[] arguments = arguments(method, dice);
            boolean refused = same(run, call, panes, model, method.getName(), arguments);
            if (refused || call % 50 == 0) {
                sameState(run, call, panes, model);
            }
        }
    }

    private static Object[] arguments(Method method, Random dice) {
        Class<?>[] types = method.getParameterTypes();
        Object[] arguments = new Object[types.length];
        for (int i = 0; i < types.length; i++) {
            arguments[i] = types[i] == long.class ? (Object) dice.nextLong() : (Object) number(dice);
        }
        return arguments;
    }

    private static int number(Random dice) {
        int way = dice.nextInt(40);
        if (way < 24) {
            return dice.nextInt(4);
        }
        if (way < 30) {
            return dice.nextInt(7);
        }
        if (way < 37) {
            return dice.nextInt(53) - 2;
        }
        if (way < 39) {
            return dice.nextInt(300) - 150;
        }
        int[] edges = {Integer.MIN_VALUE, Integer.MAX_VALUE, -1, 100, 99, 200, 1000000, dice.nextInt()};
        return edges[dice.nextInt(edges.length)];
    }

    private static String text(Random dice) {
        StringBuilder text = new StringBuilder();
        int sentences = dice.nextInt(8);
        for (int i = 0; i < sentences; i++) {
            sentence(text, dice);
        }
        if (dice.nextInt(2) == 0 && text.length() > 0) {
            spoil(text, dice);
        }
        return text.length() > 200 ? text.substring(0, 200) : text.toString();
    }

    private static void sentence(StringBuilder text, Random dice) {
        int way = dice.nextInt(12);
        if (way < 7) {
            text.append(PIECES[dice.nextInt(6)]).append(blanks(dice)).append(1 + dice.nextInt(16));
            if (dice.nextInt(3) > 0) {
                text.append(blanks(dice)).append("at").append(blanks(dice)).append(dice.nextInt(4));
            }
        } else if (way < 9) {
            text.append("view ").append(dice.nextInt(4)).append(" from ").append(dice.nextInt(50)).append(':');
            int more = dice.nextInt(6);
            text.append(dice.nextInt(100));
            for (int i = 0; i < more; i++) {
                text.append(blanks(dice)).append(',').append(blanks(dice)).append(dice.nextInt(100));
            }
        } else if (way < 11) {
            text.append("love ").append(dice.nextInt(3));
            for (int i = 0; i < 4; i++) {
                text.append(' ').append(blanks(dice)).append(dice.nextInt(10));
            }
        } else {
            text.append("today ").append(dice.nextInt(51));
        }
        text.append(blanks(dice)).append(';').append(blanks(dice));
    }

    private static String blanks(Random dice) {
        return "  ".substring(dice.nextInt(3));
    }

    private static void spoil(StringBuilder text, Random dice) {
        int at = dice.nextInt(text.length());
        int way = dice.nextInt(3);
        if (way == 0) {
            text.setLength(at);
        } else {
            String piece = PIECES[dice.nextInt(PIECES.length)];
            text.replace(at, way == 1 ? at : Math.min(text.length(), at + piece.length()), piece);
        }
    }

    /** Whether the call was refused. */
    private static boolean same(int run, int call, SlowPanes panes, Model model, String name, Object... arguments) {
        int want;
        boolean refused = false;
        try {
            want = call(model, name, arguments);
        } catch (Model.Refused e) {
            want = e.code;
            refused = true;
        }
        int got = call(panes, name, arguments);
        String told = "run " + run + ", call " + call + ": " + name + Arrays.toString(arguments);
        Check.due(told, got, want);
        return refused;
    }

    private static int call(Object object, String name, Object... arguments) {
        Method method = (object instanceof Model ? THEIRS : BY_NAME).get(name);
        try {
            return (Integer) method.invoke(object, arguments);
        } catch (InvocationTargetException e) {
            if (e.getCause() instanceof Model.Refused) {
                throw (Model.Refused) e.getCause();
            }
            throw new IllegalStateException(name + Arrays.toString(arguments), e.getCause());
        } catch (IllegalAccessException e) {
            throw new IllegalStateException(e);
        }
    }

    private static void sameState(int run, int call, SlowPanes panes, Model model) {
        same(run, call, panes, model, "today");
        for (int what = 0; what < 5; what++) {
            same(run, call, panes, model, "many", what);
        }
        for (int place = 0; place < 4; place++) {
            for (int day = 0; day < 50; day++) {
                Check.due("run " + run + ", call " + call + ": viewOf", panes.viewOf(place, day),
                    model.viewOf(place, day));
            }
        }
        for (int pane = 0; pane < model.many(0); pane++) {
            for (int what = 0; what < 5; what++) {
                same(run, call, panes, model, "paneOf", pane, what);
            }
            for (int i = 0; i < model.paneOf(pane, 1); i++) {
                same(run, call, panes, model, "glimpse", pane, i);
            }
        }
        for (int i = 0; i < model.many(2); i++) {
            for (int what = 0; what < 3; what++) {
                same(run, call, panes, model, "row", i, what);
            }
        }
        for (int i = 0; i < model.many(4); i++) {
            same(run, call, panes, model, "trace", i);
        }
        int z = model.seed(0);
        Check.due("run " + run + ", call " + call + ": z", panes.seed(z), z);
        model.seed(z);
        for (int looker = 0; looker < 3; looker++) {
            for (int place = 0; place < 4; place++) {
                int love = model.love(looker, place, 0);
                Check.due("run " + run + ", call " + call + ": love", panes.love(looker, place, love), love);
                model.love(looker, place, love);
            }
        }
        for (int i = 0; i < 4; i++) {
            for (int as = 0; as < 14; as++) {
                same(run, call, panes, model, "taken", i, as);
            }
            for (int sort = 0; sort < 4; sort++) {
                for (int j = 0; j < 41; j += 5) {
                    same(run, call, panes, model, "item", i, sort, j);
                }
            }
        }
    }
}
