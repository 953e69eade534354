import java.lang.reflect.InvocationTargetException;
import java.lang.reflect.Method;
import java.lang.reflect.Modifier;
import java.util.Arrays;
import java.util.Comparator;
import java.util.List;

/** Runs every static method without parameters of the test classes, and ends with exit code 1 if one fails. */
public final class AllTests {
    private static final List<Class<?>> CLASSES = List.of(
            MachineTest.class, StopTest.class, TimeTest.class, TurnTest.class, LimitTest.class,
            WhatIfTest.class, TextTest.class, StateTest.class,
            LineEdges.class, StopEdges.class, SpeedEdges.class, TickEdges.class, TimeEdges.class,
            LimitEdges.class, WhatIfEdges.class, TextEdges.class, StateEdges.class,
            RandomCallsTest.class, ReadmeTest.class, LanguageTest.class);

    private AllTests() {
    }

    public static void main(String[] args) {
        LanguageTest.readProgram(args.length > 0 ? args[0] : "src/main/java/LineBuffers.java");
        int passed = 0;
        int failed = 0;
        for (Class<?> tests : CLASSES) {
            Method[] methods = tests.getDeclaredMethods();
            Arrays.sort(methods, Comparator.comparing(Method::getName));
            for (Method method : methods) {
                if (!isTest(method)) {
                    continue;
                }
                if (passes(method)) {
                    passed++;
                } else {
                    failed++;
                }
            }
        }
        System.out.println("own: " + passed + " passed, " + failed + " failed");
        System.exit(failed == 0 ? 0 : 1);
    }

    private static boolean isTest(Method method) {
        return method.getParameterCount() == 0 && method.getReturnType() == void.class
                && Modifier.isStatic(method.getModifiers()) && !method.isSynthetic();
    }

    private static boolean passes(Method method) {
        String name = method.getDeclaringClass().getName() + "." + method.getName();
        try {
            method.invoke(null);
            return true;
        } catch (InvocationTargetException e) {
            System.out.println("failed: " + name + ": " + e.getCause());
            Sentence sentence = method.getAnnotation(Sentence.class);
            if (sentence != null) {
                System.out.println("    the document (" + sentence.of() + ") says: " + sentence.says());
            }
            return false;
        } catch (ReflectiveOperationException e) {
            System.out.println("failed: " + name + ": " + e);
            return false;
        }
    }
}
