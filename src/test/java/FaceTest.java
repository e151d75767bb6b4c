import java.lang.management.ManagementFactory;
import java.lang.reflect.Constructor;
import java.lang.reflect.Field;
import java.lang.reflect.Method;
import java.lang.reflect.Modifier;
import java.util.Arrays;
import java.util.HashSet;
import java.util.NoSuchElementException;
import java.util.Set;
import java.util.TreeSet;

/** The public face, odd arguments in every call, and the room that calls take. */
public final class FaceTest {
    private static final Checks CHECKS = new Checks("FaceTest");
    private static final String FULL = "posts 3 1;" + "need 0 0 47 2;need 1 5 40 3;need 2 9 30 2;"
            + "shift 0 0 47 pause 4 0 40 pause 3 0 45 pause 1 0 47;".repeat(3)
            + "shift 1 0 47 pause 4 0 40 pause 3 0 45 pause 2 0 46;".repeat(3)
            + "shift 2 0 47 pause 4 0 40 pause 3 0 45 pause 2 0 46;".repeat(2);

    public static void main(String[] args) {
        face();
        hiddenMembers();
        oddArguments();
        callsMakeNothing();
        CHECKS.finish();
    }

    private static void face() {
        Set<String> due = new TreeSet<>(Arrays.asList("int feed 5", "boolean end 1", "int text 0", "int fault 0",
                "int now 1", "int shift 2", "int pause 2", "int slot 3", "int why 2", "int would 2", "int best 1",
                "int better 0", "int least 1", "int relief 2", "int worst 0", "int place 2", "int take 1",
                "int fill 0", "int settle 0", "int undo 0"));
        Set<String> there = new TreeSet<>();
        for (Method method : BreakSetter.class.getDeclaredMethods()) {
            if (!Modifier.isPrivate(method.getModifiers())) {
                there.add(method.getReturnType() + " " + method.getName() + " " + method.getParameterCount());
                CHECKS.isTrue(method + " is public and no static one",
                        Modifier.isPublic(method.getModifiers()) && !Modifier.isStatic(method.getModifiers()));
                for (Class<?> parameter : method.getParameterTypes()) {
                    CHECKS.isTrue(method + " takes ints alone", parameter == int.class);
                }
                boolean mayThrow = method.getName().equals("shift") || method.getName().equals("pause");
                CHECKS.isTrue(method + " declares what it throws", Arrays.equals(method.getExceptionTypes(),
                        mayThrow ? new Class<?>[] {NoSuchElementException.class} : new Class<?>[0]));
            }
        }
        CHECKS.isTrue("the methods of the face: " + there, there.equals(due));
        CHECKS.isTrue("public and final", Modifier.isFinal(BreakSetter.class.getModifiers())
                && Modifier.isPublic(BreakSetter.class.getModifiers()));
        Constructor<?>[] constructors = BreakSetter.class.getDeclaredConstructors();
        CHECKS.same("constructors", constructors.length, 1);
        CHECKS.same("their parameters", constructors[0].getParameterCount(), 0);
        CHECKS.same("NONE", BreakSetter.NONE, -1);
    }

    private static void hiddenMembers() {
        for (Field field : BreakSetter.class.getDeclaredFields()) {
            CHECKS.isTrue(field + " is private, or NONE",
                    Modifier.isPrivate(field.getModifiers()) || field.getName().equals("NONE"));
        }
        Set<String> faceNames = new HashSet<>();
        for (Method method : BreakSetter.class.getMethods()) {
            faceNames.add(method.getName());
        }
        for (Class<?> inside : BreakSetter.class.getDeclaredClasses()) {
            CHECKS.isTrue(inside + " is static", Modifier.isStatic(inside.getModifiers()));
            for (Method method : inside.getDeclaredMethods()) {
                CHECKS.isTrue(method + " has a name of its own", !faceNames.contains(method.getName()));
            }
        }
    }

    private static void oddArguments() {
        int[] odd = {Integer.MIN_VALUE, -49, -2, -1, 0, 1, 2, 3, 8, 23, 24, 47, 48, 641, Integer.MAX_VALUE};
        BreakSetter[] objects = {new BreakSetter(), Checks.told("posts 3 4;"), Checks.told(FULL)};
        for (BreakSetter x : objects) {
            for (int a : odd) {
                for (int b : odd) {
                    askAll(x, a, b);
                }
            }
        }
    }

    private static void askAll(BreakSetter x, int a, int b) {
        x.now(a);
        x.slot(a, b, 1);
        x.slot(1, a, b);
        x.why(a, b);
        x.would(a, b);
        x.best(a);
        x.better();
        x.least(a);
        x.relief(a, b);
        x.worst();
        x.place(a, b);
        x.take(b);
        x.fill();
        x.settle();
        x.undo();
        x.end(a);
        x.feed(a, b, a, b, a);
        onlyNoSuchElement(x, a, b);
        CHECKS.isTrue("shortfall is never below 0", x.now(4) >= 0);
    }

    private static void onlyNoSuchElement(BreakSetter x, int a, int b) {
        boolean hasShift = a >= 0 && a < x.now(1) && b >= 0 && b <= 4;
        boolean hasPause = a >= 0 && a < x.now(2) && b >= 0 && b <= 4;
        boolean threw = false;
        try {
            x.shift(a, b);
        } catch (NoSuchElementException e) {
            threw = true;
        }
        CHECKS.isTrue("shift(" + a + ", " + b + ")", threw != hasShift);
        threw = false;
        try {
            x.pause(a, b);
        } catch (NoSuchElementException e) {
            threw = true;
        }
        CHECKS.isTrue("pause(" + a + ", " + b + ")", threw != hasPause);
    }

    /** The room is small: rows are made with the object, and calls make none. */
    private static void callsMakeNothing() {
        com.sun.management.ThreadMXBean threads =
                (com.sun.management.ThreadMXBean) ManagementFactory.getThreadMXBean();
        BreakSetter x = Checks.told(FULL);
        long self = Thread.currentThread().getId();
        work(x);
        long before = threads.getThreadAllocatedBytes(self);
        long own = threads.getThreadAllocatedBytes(self) - before;
        before = threads.getThreadAllocatedBytes(self);
        for (int i = 0; i < 50; i++) {
            work(x);
        }
        long made = threads.getThreadAllocatedBytes(self) - before;
        CHECKS.isTrue("calls make nothing (bytes: " + made + ")", made <= own + 4000);
    }

    private static void work(BreakSetter x) {
        x.feed(0x706f7374, 0x73203120, 0x313b4040, 0x40404040, 0x40404040);
        x.text();
        x.fill();
        x.place(3, 7);
        x.settle();
        x.take(3);
        x.better();
        x.best(5);
        x.would(5, 9);
        x.relief(2, 40);
        x.least(1);
        x.worst();
        x.undo();
    }
}
