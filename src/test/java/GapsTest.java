import java.util.NoSuchElementException;

/** Promises 24 to 28: gaps and coverage. */
final class GapsTest {
    private static final int LEAST = Integer.MIN_VALUE;
    private static final int MOST = Integer.MAX_VALUE;

    public static void main(String[] args) {
        gaps();
        gapDay();
        gapDays();
        coverage();
        isCovered();
        wrong();
        Checks.end("GapsTest");
    }

    /** Key 0: [10, 20), [20, 30), [50, 60), made in another order; gaps 30 to 49 and 60 to 999. */
    private static DimensionLoader some() {
        DimensionLoader x = new DimensionLoader();
        x.change(0, 50, 7);
        x.close(0, 60);
        x.change(0, 10, 6);
        x.change(0, 20, 5);
        x.close(0, 30);
        return x;
    }

    private static void gaps() {
        DimensionLoader x = some();
        Checks.same("24 two", x.gaps(0), 2);
        Checks.same("24 no version", x.gaps(1), 0);
        x.change(1, 500, 1);
        Checks.same("24 none ahead of the first one", x.gaps(1), 0);
        x.close(1, 999);
        Checks.same("24 one day", x.gaps(1), 1);
        x.change(0, 70, 1);
        Checks.same("24 up to the end of days", x.gaps(0), 2);
        x.remove(0);
        Checks.same("24 two gaps become one", x.gaps(0), 1);
        x.remove(1);
        x.remove(2);
        Checks.same("24 the key begins later", x.gaps(0), 0);
    }

    private static void gapDay() {
        DimensionLoader x = some();
        Checks.same("25 first of 0", x.gapDay(0, 0, false), 30);
        Checks.same("25 last of 0", x.gapDay(0, 0, true), 49);
        Checks.same("25 first of 1", x.gapDay(0, 1, false), 60);
        Checks.same("25 last of 1", x.gapDay(0, 1, true), 999);
        for (int gap : new int[] {LEAST, -1, 2, MOST}) {
            Checks.raises("25 gap " + gap, NoSuchElementException.class, () -> x.gapDay(0, gap, true));
        }
        Checks.raises("25 no version", NoSuchElementException.class, () -> x.gapDay(1, 0, false));
        x.change(1, 3, 3);
        Checks.raises("25 no gap", NoSuchElementException.class, () -> x.gapDay(1, 0, false));
        x.change(0, 48, 3);
        x.change(0, 30, 3);
        x.close(0, 31);
        Checks.sameText("25 later gap", x.gapDay(0, 0, false) + "-" + x.gapDay(0, 0, true), "31-47");
    }

    private static void gapDays() {
        DimensionLoader x = some();
        Checks.same("26 one key", x.gapDays(), 20 + 940);
        x.change(3, 0, 1);
        x.close(3, 1);
        Checks.same("26 two keys", x.gapDays(), 20 + 940 + 999);
        x.change(0, 60, 1);
        Checks.same("26 closed", x.gapDays(), 20 + 999);
        Checks.same("26 none", new DimensionLoader().gapDays(), 0);
    }

    private static void coverage() {
        DimensionLoader x = some();
        Checks.sameDouble("27 some", x.coverage(0), 30.0 / 990.0);
        x.change(1, 999, 1);
        Checks.sameDouble("27 one day", x.coverage(1), 1.0);
        x.remove(2);
        Checks.sameDouble("27 with a removed one", x.coverage(0), 30.0 / 990.0);
        x.remove(1);
        Checks.sameDouble("27 begins later", x.coverage(0), 10.0 / 950.0);
        x.remove(0);
        Checks.raises("27 no version any more", ArithmeticException.class, () -> x.coverage(0));
        Checks.raises("27 no version", ArithmeticException.class, () -> x.coverage(2));
    }

    private static void isCovered() {
        DimensionLoader x = some();
        Checks.same("28 one version", x.isCovered(0, 50, 59), true);
        Checks.same("28 two versions", x.isCovered(0, 10, 29), true);
        Checks.same("28 one day", x.isCovered(0, 29, 29), true);
        Checks.same("28 day ahead", x.isCovered(0, 9, 29), false);
        Checks.same("28 day behind", x.isCovered(0, 10, 30), false);
        Checks.same("28 over a gap", x.isCovered(0, 29, 50), false);
        Checks.same("28 none", x.isCovered(0, 30, 30), false);
        Checks.same("28 last day less", x.isCovered(0, 40, 39), true);
        Checks.same("28 no version", x.isCovered(1, 0, 0), false);
        Checks.same("28 no version, last day less", x.isCovered(1, 1, 0), true);
        DimensionLoader full = Look.full();
        Checks.same("28 sixty versions", full.isCovered(0, 0, 999), true);
    }

    private static void wrong() {
        DimensionLoader x = some();
        for (int key : new int[] {LEAST, -1, 8, MOST}) {
            Checks.raises("24 key " + key, IndexOutOfBoundsException.class, () -> x.gaps(key));
            Checks.raises("25 key " + key, IndexOutOfBoundsException.class, () -> x.gapDay(key, -1, true));
            Checks.raises("27 key " + key, IndexOutOfBoundsException.class, () -> x.coverage(key));
            Checks.raises("28 key " + key, IndexOutOfBoundsException.class, () -> x.isCovered(key, -1, 0));
        }
        for (int day : new int[] {LEAST, -1, 1000, MOST}) {
            Checks.raises("28 from " + day, IllegalArgumentException.class, () -> x.isCovered(0, day, 0));
            Checks.raises("28 to " + day, IllegalArgumentException.class, () -> x.isCovered(0, 999, day));
        }
    }
}
