/** Counts answers that are due and answers that are not. */
final class Checks {
    private static final long MOST_MILLISECONDS = 120_000;

    private static int right;
    private static int wrong;

    static {
        Thread watch = new Thread(Checks::stopLate);
        watch.setDaemon(true);
        watch.start();
    }

    private Checks() {
    }

    interface Call {
        void run();
    }

    interface Question {
        long ask();
    }

    static void same(String what, long got, long due) {
        judge(got == due, what, String.valueOf(got), String.valueOf(due));
    }

    static void same(String what, boolean got, boolean due) {
        judge(got == due, what, String.valueOf(got), String.valueOf(due));
    }

    static void sameDouble(String what, double got, double due) {
        judge(got == due, what, String.valueOf(got), String.valueOf(due));
    }

    static void sameText(String what, String got, String due) {
        judge(got.equals(due), what, got, due);
    }

    /** The exception has to be of this very class, not of one below it. */
    static void raises(String what, Class<? extends Exception> due, Call call) {
        String got = "nothing";
        try {
            call.run();
        } catch (RuntimeException e) {
            got = e.getClass().getName();
        }
        judge(got.equals(due.getName()), what + " throws", got, due.getName());
    }

    /** The answer to a question, or the name of the exception that is thrown instead. */
    static String answer(Question question) {
        try {
            return String.valueOf(question.ask());
        } catch (RuntimeException e) {
            return e.getClass().getSimpleName();
        }
    }

    /** A call that never ends has to fail the test, not to hold it up. */
    private static void stopLate() {
        try {
            Thread.sleep(MOST_MILLISECONDS);
        } catch (InterruptedException e) {
            return;
        }
        System.out.println("a call does not end");
        Runtime.getRuntime().halt(1);
    }

    private static void judge(boolean isRight, String what, String got, String due) {
        if (isRight) {
            right++;
        } else {
            wrong++;
            System.out.println(what + " answered " + got + ", due is " + due);
        }
    }

    /** Ends the program, with exit code 1 if an answer was wrong. */
    static void end(String name) {
        System.out.println(name + ": " + right + " answers right, " + wrong + " wrong");
        System.exit(wrong == 0 && right > 0 ? 0 : 1);
    }
}
