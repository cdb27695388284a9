import java.io.IOException;
import java.lang.reflect.Constructor;
import java.lang.reflect.Field;
import java.lang.reflect.Method;
import java.lang.reflect.Modifier;
import java.nio.file.Files;
import java.nio.file.Path;
import java.util.Arrays;
import java.util.TreeSet;
import java.util.regex.Matcher;
import java.util.regex.Pattern;

/** The public face of the class, and those rules of LANGUAGE.md that can be seen from outside. */
public final class FaceTest {
    private static final String[] METHODS = {"set(int,int)", "server(int,int)", "weigh(int,int)", "toRack(int,int)",
        "down(int,boolean)", "store(int)", "drop(int)", "pin(int,int)", "ofServer(int,int)", "place(int,int)",
        "straw(int,int)", "move(int,int)", "object(int,int)", "count(int)", "movesIf(int,int)", "lostWith(int,int)",
        "bestWeight(int,int)", "put(long)", "wipe()", "fault()", "carryOut()", "undo()", "save(int)",
        "restore(int)"};
    private static final String[] CONSTANTS = {"NO_SUCH=-1", "BAD_VALUE=-2", "BAD_TEXT=-3", "TOO_MANY=-4",
        "NOT_POSSIBLE=-5", "NONE=-6", "COPIES=0", "SALT=1"};
    private static final Pattern RULED_OUT = Pattern.compile(
            "\\b(throw|throws|try|catch|synchronized|assert|package|Random|System\\.(?!arraycopy)\\w+|Thread)\\b|->|::");

    private final Due due = new Due("face");

    private FaceTest() {
    }

    public static void main(String[] args) throws ReflectiveOperationException, IOException {
        FaceTest test = new FaceTest();
        test.members();
        test.classesInside();
        test.ruledOutWords();
        test.callsMakeNothing();
        Due.end(test.due);
    }

    private void same(String what, TreeSet<String> got, String[] want) {
        TreeSet<String> wanted = new TreeSet<>(Arrays.asList(want));
        due.is(what + " " + got, got.equals(wanted) ? 1 : 0, 1);
    }

    private void members() throws ReflectiveOperationException {
        TreeSet<String> methods = new TreeSet<>();
        TreeSet<String> ownNames = new TreeSet<>();
        for (Method method : StrawDraws.class.getDeclaredMethods()) {
            if (Modifier.isPrivate(method.getModifiers())) {
                ownNames.add(method.getName());
            } else {
                String types = Arrays.toString(Arrays.stream(method.getParameterTypes()).map(Class::getName).toArray());
                methods.add(method.getName() + "(" + types.replaceAll("[\\[\\] ]", "") + ")");
                due.is(method + " is public and no more", method.getModifiers(), Modifier.PUBLIC);
                due.is(method + " returns an int", method.getReturnType() == int.class ? 1 : 0, 1);
            }
        }
        same("methods", methods, METHODS);
        for (String method : METHODS) {
            String name = method.substring(0, method.indexOf('('));
            due.is("private methods named " + name, ownNames.contains(name) ? 1 : 0, 0);
        }
        TreeSet<String> constants = new TreeSet<>();
        for (Field field : StrawDraws.class.getDeclaredFields()) {
            if (!Modifier.isPrivate(field.getModifiers())) {
                constants.add(field.getName() + "=" + field.getInt(null));
            } else {
                due.is(field + ", if static, is final", isStaticVariable(field) ? 1 : 0, 0);
            }
        }
        same("constants", constants, CONSTANTS);
        Constructor<?>[] constructors = StrawDraws.class.getDeclaredConstructors();
        due.is("constructors", constructors.length, 1);
        due.is("parameters of the constructor", constructors[0].getParameterCount(), 0);
        due.is("the class", StrawDraws.class.getModifiers(), Modifier.PUBLIC | Modifier.FINAL);
    }

    private static boolean isStaticVariable(Field field) {
        return Modifier.isStatic(field.getModifiers()) && !Modifier.isFinal(field.getModifiers());
    }

    private void classesInside() {
        Class<?>[] inside = StrawDraws.class.getDeclaredClasses();
        due.is("at most 11 classes inside", inside.length <= 11 ? 1 : 0, 1);
        for (Class<?> one : inside) {
            due.is(one + " is static", Modifier.isStatic(one.getModifiers()) ? 1 : 0, 1);
            due.is(one + " is hidden", Modifier.isPublic(one.getModifiers()) ? 1 : 0, 0);
            for (Field field : one.getDeclaredFields()) {
                due.is(field + ", if static, is final", isStaticVariable(field) ? 1 : 0, 0);
            }
        }
    }

    private void ruledOutWords() throws IOException {
        String source = Files.readString(Path.of("src/main/java/StrawDraws.java"));
        Matcher found = RULED_OUT.matcher(source.replaceAll("//.*|(?s)/\\*.*?\\*/", ""));
        while (found.find()) {
            due.is("words ruled out: " + found.group(), 1, 0);
        }
    }

    /** All calls of one run live in one room: what a call needs was made by the constructor. */
    private void callsMakeNothing() {
        busyRun(new StrawDraws());
        StrawDraws draws = new StrawDraws();
        com.sun.management.ThreadMXBean threads =
                (com.sun.management.ThreadMXBean) java.lang.management.ManagementFactory.getThreadMXBean();
        threads.getCurrentThreadAllocatedBytes();
        long before = threads.getCurrentThreadAllocatedBytes();
        busyRun(draws);
        long made = threads.getCurrentThreadAllocatedBytes() - before;
        due.is("bytes made by calls are few: " + made, made < 5000 ? 1 : 0, 1);
    }

    private static void busyRun(StrawDraws draws) {
        for (int server = 0; server < 12; server++) {
            draws.server(server % 6, server + 1);
        }
        for (int object = 0; object < 40; object++) {
            draws.store(object * 37);
        }
        long twoOrders = 0x2b353b2d353b6430L;
        for (int turn = 0; turn < 15; turn++) {
            draws.set(StrawDraws.SALT, turn);
            draws.weigh(turn % 12, turn);
            draws.toRack(turn % 12, turn % 6);
            draws.down(turn % 12, turn % 2 == 0);
            draws.pin(37, turn % 12);
            draws.drop(74);
            draws.store(74);
            draws.put(twoOrders);
            draws.fault();
            draws.carryOut();
            draws.wipe();
            draws.undo();
            draws.save(0);
            draws.restore(0);
            draws.place(5000 + turn, 0);
            draws.straw(turn % 12, turn);
            draws.move(0, 0);
            draws.object(0, 2);
            draws.count(7);
            draws.ofServer(turn % 12, 4);
            draws.movesIf(turn % 12, turn);
            draws.lostWith(turn % 12, 3);
            draws.bestWeight(turn % 12, 0);
        }
    }
}
