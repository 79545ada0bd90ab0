import java.lang.reflect.Constructor;
import java.lang.reflect.Field;
import java.lang.reflect.Method;
import java.lang.reflect.Modifier;
import java.util.ArrayList;
import java.util.Arrays;
import java.util.Collections;
import java.util.List;

/** The public face: every constant, the constructor and every method, and no other member that can be seen. */
final class FaceTest {
    private static final String[] METHODS = {
        "feed(long,int)", "quarry()", "view(int,int,int)", "viewOf(int,int)", "love(int,int,int)", "pane(int,int)",
        "paneOf(int,int)", "glimpse(int,int)", "hang(int,int)", "cast(int,int)", "today()", "days(int)", "turn(int)",
        "cut(int,int)", "lay(int,int)", "drop(int)", "dark(int)", "seen(int,int,int)", "worth(int,int,int)",
        "buy(int,int)", "let(int,int,int)", "best(int,int,int)", "turned(int,int,int)", "will(int,int)", "seed(int)",
        "draw(int,int)", "prove(int,int)", "row(int,int)", "alterRow(int,int,int)", "judge(int)",
        "views(int,int,int,int,int)", "sheet(int,int,int)", "put(int,int,int)", "item(int,int,int)",
        "shelf(int,int,int)", "taken(int,int)", "act(int,int,int)", "trace(int)", "many(int)", "keep()", "again()"};

    private FaceTest() {
    }

    static void run() {
        Check.due("BAD", SlowPanes.BAD, -1);
        Check.due("FULL", SlowPanes.FULL, -2);
        Check.due("NONE", SlowPanes.NONE, -3);
        Check.due("STATE", SlowPanes.STATE, -4);
        Check.isTrue("the class is public and final",
            SlowPanes.class.getModifiers() == (Modifier.PUBLIC | Modifier.FINAL));
        methodsAreThose();
        othersAreHidden();
    }

    private static void methodsAreThose() {
        List<String> found = new ArrayList<>();
        List<String> hidden = new ArrayList<>();
        for (Method method : SlowPanes.class.getDeclaredMethods()) {
            if (Modifier.isPublic(method.getModifiers())) {
                found.add(signature(method));
                Check.isTrue(method.getName() + " answers an int", method.getReturnType() == int.class);
            } else {
                hidden.add(method.getName());
                Check.isTrue(method.getName() + " is private", Modifier.isPrivate(method.getModifiers()));
            }
        }
        List<String> wanted = new ArrayList<>(Arrays.asList(METHODS));
        Collections.sort(found);
        Collections.sort(wanted);
        Check.isTrue("the public methods are those of the document: " + found, found.equals(wanted));
        for (Method method : SlowPanes.class.getDeclaredMethods()) {
            if (Modifier.isPublic(method.getModifiers())) {
                Check.isTrue(method.getName() + " is no private name", !hidden.contains(method.getName()));
            }
        }
    }

    private static String signature(Method method) {
        StringBuilder text = new StringBuilder(method.getName()).append('(');
        for (Class<?> type : method.getParameterTypes()) {
            text.append(text.charAt(text.length() - 1) == '(' ? "" : ",").append(type.getName());
        }
        return text.append(')').toString();
    }

    private static void othersAreHidden() {
        Constructor<?>[] constructors = SlowPanes.class.getDeclaredConstructors();
        Check.due("constructors", constructors.length, 1);
        Check.isTrue("the constructor is public", Modifier.isPublic(constructors[0].getModifiers()));
        int constants = 0;
        for (Field field : SlowPanes.class.getDeclaredFields()) {
            boolean isPublic = Modifier.isPublic(field.getModifiers());
            constants += isPublic ? 1 : 0;
            Check.isTrue(field.getName() + " is public or private",
                isPublic || Modifier.isPrivate(field.getModifiers()));
            Check.isTrue(field.getName() + " is no static that changes",
                !Modifier.isStatic(field.getModifiers()) || Modifier.isFinal(field.getModifiers()));
        }
        Check.due("public constants", constants, 4);
        for (Class<?> inside : SlowPanes.class.getDeclaredClasses()) {
            Check.isTrue(inside.getName() + " is static and hidden", Modifier.isStatic(inside.getModifiers())
                && !Modifier.isPublic(inside.getModifiers()) && !Modifier.isProtected(inside.getModifiers()));
        }
    }
}
