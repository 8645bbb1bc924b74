import java.lang.reflect.InvocationTargetException;
import java.lang.reflect.Method;
import java.util.Arrays;
import java.util.Comparator;
import java.util.List;
import java.util.function.Supplier;
import java.util.function.ToLongFunction;

/** Runs the tests of a class, and counts what is right and wrong. */
final class Check {
    private static int right = 0;
    private static int wrong = 0;
    private static String about = "";

    private Check() {
    }

    /** Runs each method that has a Sentence, in the order of their names. */
    static void sentencesOf(Class<?> tests) {
        Method[] methods = tests.getDeclaredMethods();
        Arrays.sort(methods, Comparator.comparing(Method::getName));
        for (Method method : methods) {
            Sentence sentence = method.getAnnotation(Sentence.class);
            if (sentence != null) {
                about = method.getName() + " (" + sentence.under() + ": \"" + sentence.words() + "\"): ";
                run(method);
            }
        }
        about = "";
        end(tests.getSimpleName());
    }

    private static void run(Method test) {
        try {
            test.setAccessible(true);
            test.invoke(null);
        } catch (InvocationTargetException e) {
            note(false, "it threw " + e.getCause());
        } catch (IllegalAccessException e) {
            note(false, "it can't be run: " + e);
        }
    }

    private static void note(boolean holds, String otherwise) {
        if (holds) {
            right++;
        } else {
            wrong++;
            System.out.println("  " + about + otherwise);
        }
    }

    static void due(String what, long got, long want) {
        note(got == want, what + " answered " + got + ", due is " + want);
    }

    static void due(String what, double got, double want) {
        boolean same = Double.doubleToLongBits(got) == Double.doubleToLongBits(want);
        note(same, what + " answered " + got + ", due is " + want);
    }

    static void isTrue(String what, boolean holds) {
        note(holds, what + " does not hold");
    }

    /** The call throws just this exception, and all that can be asked behind it is as without it. */
    static void refused(Supplier<CheeseRota> maker, String what, Class<? extends RuntimeException> due,
            ToLongFunction<CheeseRota> call) {
        CheeseRota x = maker.get();
        long before = x.digest();
        String thrown = thrownBy(x, call);
        note(thrown.equals(due.getSimpleName()), what + " threw " + thrown + ", due is " + due.getSimpleName());
        due("digest() behind " + what, x.digest(), before);
        sameAnswers(what, x, maker.get());
    }

    /** The call answers this, and all that can be asked behind it is as without it. */
    static void changesNothing(Supplier<CheeseRota> maker, String what, ToLongFunction<CheeseRota> call, long want) {
        CheeseRota x = maker.get();
        long before = x.digest();
        due(what, call.applyAsLong(x), want);
        due("digest() behind " + what, x.digest(), before);
        sameAnswers(what, x, maker.get());
    }

    /** The call, on an object of its own, answers this. */
    static void answers(Supplier<CheeseRota> maker, String what, ToLongFunction<CheeseRota> call, long want) {
        due(what, call.applyAsLong(maker.get()), want);
    }

    /** The call, on an object of its own, answers whatever it may, but throws nothing. */
    static void allowed(Supplier<CheeseRota> maker, String what, ToLongFunction<CheeseRota> call) {
        String thrown = thrownBy(maker.get(), call);
        note(thrown.equals("nothing"), what + " threw " + thrown + ", due is an answer");
    }

    private static String thrownBy(CheeseRota x, ToLongFunction<CheeseRota> call) {
        try {
            call.applyAsLong(x);
            return "nothing";
        } catch (RuntimeException e) {
            return e.getClass().getSimpleName();
        }
    }

    private static void sameAnswers(String what, CheeseRota got, CheeseRota want) {
        List<String> gotAnswers = Answers.of(got);
        List<String> wantAnswers = Answers.of(want);
        for (int i = 0; i < wantAnswers.size() && i < gotAnswers.size(); i++) {
            if (!gotAnswers.get(i).equals(wantAnswers.get(i))) {
                note(false, "behind " + what + ": " + gotAnswers.get(i) + ", due is " + wantAnswers.get(i));
                return;
            }
        }
        note(gotAnswers.size() == wantAnswers.size(), "behind " + what + " there is more or less to ask");
    }

    static void end(String test) {
        System.out.println(test + ": " + right + " right, " + wrong + " wrong");
        if (wrong != 0 || right == 0) {
            System.exit(1);
        }
    }
}
