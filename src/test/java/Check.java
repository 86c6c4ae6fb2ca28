/** What the tests share: it counts wrong answers and ends the program with exit code 1 if there were some. */
final class Check {
    interface Call {
        double run();
    }

    /** A call with one argument left open. */
    interface CallWith {
        double run(int argument);
    }

    private static int wrong = 0;
    private static int made = 0;

    private Check() {
    }

    static void due(String call, long got, long want) {
        made++;
        if (got != want) {
            report(call + " answered " + got + ", due is " + want);
        }
    }

    static void dueReal(String call, double got, double want) {
        made++;
        if (got != want) {
            report(call + " answered " + got + ", due is " + want);
        }
    }

    static void dueText(String call, String got, String want) {
        made++;
        if (!got.equals(want)) {
            report(call + " answered " + got + ", due is " + want);
        }
    }

    static void dueAll(String what, long[] got, long... want) {
        made++;
        if (!java.util.Arrays.equals(got, want)) {
            report(what + " are " + java.util.Arrays.toString(got) + ", due are " + java.util.Arrays.toString(want));
        }
    }

    static void outOfBounds(CoveSignals x, String name, Call call) {
        dueThrow(x, name, IndexOutOfBoundsException.class, call);
    }

    static void illegalArgument(CoveSignals x, String name, Call call) {
        dueThrow(x, name, IllegalArgumentException.class, call);
    }

    static void illegalState(CoveSignals x, String name, Call call) {
        dueThrow(x, name, IllegalStateException.class, call);
    }

    /** The call refuses the next number below the least, the next above the greatest, and the farthest of all. */
    static void outOfBoundsOutside(CoveSignals x, String name, int least, int greatest, CallWith call) {
        for (int wrong : outside(least, greatest)) {
            outOfBounds(x, name + " with " + wrong, () -> call.run(wrong));
        }
    }

    static void illegalArgumentOutside(CoveSignals x, String name, int least, int greatest, CallWith call) {
        for (int wrong : outside(least, greatest)) {
            illegalArgument(x, name + " with " + wrong, () -> call.run(wrong));
        }
    }

    private static int[] outside(int least, int greatest) {
        return new int[] {least - 1, greatest + 1, Integer.MIN_VALUE, Integer.MAX_VALUE};
    }

    /** The call throws exactly this exception, by the class's own throw, and changes nothing. */
    private static void dueThrow(CoveSignals x, String name, Class<?> want, Call call) {
        made++;
        long before = x.digest();
        Class<?> got = null;
        try {
            call.run();
        } catch (RuntimeException e) {
            got = e.getClass();
        }
        if (got != want) {
            report(name + " threw " + got + ", due is " + want);
        }
        if (x.digest() != before) {
            report(name + " changed something");
        }
    }

    private static void report(String text) {
        wrong++;
        System.out.println(text);
    }

    static void end(String test) {
        System.out.println(test + ": " + made + " checks, " + wrong + " wrong");
        if (wrong != 0) {
            System.exit(1);
        }
    }
}
