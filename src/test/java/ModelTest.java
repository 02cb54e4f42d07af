import java.lang.reflect.InvocationTargetException;
import java.lang.reflect.Method;

/** Long mixed runs of calls, each answer beside that of the model. The runs are the same each time. */
final class ModelTest {
    /**
     * Each call with what its arguments are: k a key, d a day, v a value, n a number of a version or fact,
     * w a what, i an index, b a boolean, l a limit, c a character. A * makes it come more often.
     */
    private static final String[] CALLS = {
        "change kdv ****", "addFact kdv ***", "close kd **", "correct nv *", "remove n *", "join k *", "clear",
        "versionCount", "versionsOf k", "versionAt ki", "validOn kd", "nextAfter kd", "version nw *", "isInferred n",
        "firstInferred", "inferredCount", "removedCount", "factCount", "fact nw *", "amountOf n", "amountFor kv",
        "pointedAnew ***", "gaps k *", "gapDay kib ***", "gapDays", "coverage k", "isCovered kdd *", "stage kdv **", "staged",
        "nextRow w", "loadRows l *", "append c", "read", "errorPosition", "save", "restore"};
    private static final int RUNS = 400;
    private static final int CALLS_OF_AN_OBJECT = 512;

    private static long seed;
    private static int[] days;
    private static int keys;
    private static int values;
    private static int numbers;
    private static int callsToText;
    private static boolean isGrowing;

    public static void main(String[] args) throws ReflectiveOperationException {
        for (int run = 0; run < RUNS; run++) {
            run(run);
        }
        Checks.end("ModelTest");
    }

    private static void run(int run) throws ReflectiveOperationException {
        seed = run * 7919L + 17;
        keys = 1 + below(8);
        days = new int[3 + below(60)];
        for (int i = 0; i < days.length; i++) {
            days[i] = below(1000);
        }
        days[0] = 0;
        days[1] = 999;
        values = below(2) == 0 ? 3 : 500;
        numbers = below(2) == 0 ? 20 : 64;
        callsToText = below(4) == 0 ? 6 : 150;
        // A run comes to 60 versions or facts only if they are not cleared now and then.
        isGrowing = below(3) > 0;
        DimensionLoader loader = new DimensionLoader();
        DayModel model = new DayModel();
        int left = CALLS_OF_AN_OBJECT;
        while (left > 0) {
            String text = below(callsToText) == 0 ? text() : "";
            for (int i = 0; i < text.length() && left > 1; i++, left--) {
                both(run, loader, model, "append", new Object[] {text.charAt(i)});
            }
            String call = CALLS[weighed()];
            String[] parts = call.split(" ");
            boolean hasArguments = parts.length > 1 && !parts[1].startsWith("*");
            both(run, loader, model, text.isEmpty() ? parts[0] : "read",
                    text.isEmpty() && hasArguments ? arguments(parts[1]) : new Object[0]);
            left--;
        }
    }

    private static int weighed() {
        while (true) {
            int call = below(CALLS.length);
            int stars = CALLS[call].length() - CALLS[call].replace("*", "").length();
            boolean isClearing = CALLS[call].equals("clear") || CALLS[call].equals("restore");
            if (isClearing && isGrowing && below(20) > 0) {
                continue;
            }
            if (below(5) <= stars) {
                return call;
            }
        }
    }

    private static Object[] arguments(String kinds) {
        Object[] arguments = new Object[kinds.length()];
        for (int i = 0; i < arguments.length; i++) {
            arguments[i] = argument(kinds.charAt(i));
        }
        return arguments;
    }

    private static Object argument(char kind) {
        boolean isWild = below(40) == 0;
        switch (kind) {
            case 'k':
                return isWild ? below(11) - 1 : below(keys);
            case 'd':
                return isWild ? below(4) * 334 - 1 : near();
            case 'v':
                return isWild ? (int) next() : below(values);
            case 'n':
                return isWild ? below(64) - 2 : below(numbers);
            case 'w':
                return below(8) - 1;
            case 'i':
                return isWild ? below(8) - 1 : below(3);
            case 'b':
                return below(2) == 0;
            case 'l':
                return isWild ? below(23) - 1 : 1 + below(6);
            default:
                return "k0@1=-,5; \u001f\u007f".charAt(below(11));
        }
    }

    private static int near() {
        int day = days[below(days.length)] + below(3) - 1;
        return Math.max(0, Math.min(999, day));
    }

    /** A text that is right, or right but for one character. */
    private static String text() {
        StringBuilder text = new StringBuilder();
        int rows = 1 + below(4);
        for (int row = 0; row < rows; row++) {
            text.append(row > 0 ? "," : "").append('k').append(below(8)).append('@').append(near());
            text.append('=').append(below(4) - 1);
        }
        if (below(3) == 0) {
            text.setCharAt(below(text.length()), "k8@1=-, ".charAt(below(8)));
        }
        return text.length() > 32 ? text.substring(0, 32) : text.toString();
    }

    private static void both(int run, DimensionLoader loader, DayModel model, String call, Object[] arguments)
            throws ReflectiveOperationException {
        StringBuilder what = new StringBuilder("run ").append(run).append(": ").append(call);
        for (Object argument : arguments) {
            what.append(' ').append(argument);
        }
        Checks.sameText(what.toString(), answer(loader, call, arguments), answer(model, call, arguments));
    }

    private static String answer(Object object, String call, Object[] arguments) throws ReflectiveOperationException {
        for (Method method : object.getClass().getDeclaredMethods()) {
            if (method.getName().equals(call) && java.lang.reflect.Modifier.isPublic(method.getModifiers())) {
                try {
                    return String.valueOf(method.invoke(object, arguments));
                } catch (InvocationTargetException e) {
                    return e.getCause().getClass().getName();
                }
            }
        }
        throw new NoSuchMethodException(call);
    }

    private static int below(int bound) {
        return (int) ((next() >>> 8) % bound);
    }

    /** Numbers that look mixed but are the same each time. */
    private static long next() {
        seed = seed * 6364136223846793005L + 1442695040888963407L;
        return seed >>> 24;
    }
}
