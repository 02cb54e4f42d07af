import java.util.NoSuchElementException;

/** Promises 9 to 23: questions about versions and facts. */
final class QuestionsTest {
    private static final int LEAST = Integer.MIN_VALUE;
    private static final int MOST = Integer.MAX_VALUE;

    public static void main(String[] args) {
        counts();
        versionAt();
        validOn();
        nextAfter();
        version();
        firstInferred();
        facts();
        factWrong();
        amounts();
        pointedAnew();
        pointedAnewIsKept();
        Checks.end("QuestionsTest");
    }

    /** Key 0: 1 [10, 20), 0 [20, 30), 3 [50, 60); key 1: 2, inferred, from 40; 4 is removed. */
    private static DimensionLoader some() {
        DimensionLoader x = new DimensionLoader();
        x.change(0, 20, 5);
        x.change(0, 10, 6);
        x.addFact(1, 40, 1);
        x.close(0, 30);
        x.change(0, 50, 7);
        x.close(0, 60);
        x.change(0, 70, 8);
        x.remove(4);
        return x;
    }

    private static void counts() {
        DimensionLoader x = some();
        Checks.same("9 versionCount", x.versionCount(), 4);
        Checks.same("10 versionsOf(0)", x.versionsOf(0), 3);
        Checks.same("10 versionsOf(1)", x.versionsOf(1), 1);
        Checks.same("10 versionsOf(7)", x.versionsOf(7), 0);
        Checks.same("17 inferredCount", x.inferredCount(), 1);
        Checks.same("18 removedCount", x.removedCount(), 1);
        for (int key : new int[] {LEAST, -1, 8, MOST}) {
            Checks.raises("10 key " + key, IndexOutOfBoundsException.class, () -> x.versionsOf(key));
        }
        DimensionLoader full = Look.full();
        Checks.same("9 full", full.versionCount(), 60);
        Checks.same("10 full", full.versionsOf(0), 60);
        x.addFact(2, 1, 1);
        Checks.same("17 two", x.inferredCount(), 2);
        DimensionLoader y = new DimensionLoader();
        y.change(0, 5, 1);
        y.addFact(0, 0, 1);
        y.change(0, 10, 2);
        y.remove(2);
        y.remove(0);
        Checks.same("17 removed ones are not inferred ones", y.inferredCount(), 1);
        Checks.same("18 two", y.removedCount(), 2);
    }

    private static void versionAt() {
        DimensionLoader x = some();
        Checks.same("11 place 0", x.versionAt(0, 0), 1);
        Checks.same("11 place 1", x.versionAt(0, 1), 0);
        Checks.same("11 place 2", x.versionAt(0, 2), 3);
        Checks.same("11 another key", x.versionAt(1, 0), 2);
        for (int index : new int[] {LEAST, -1, 3, 4, 60, MOST}) {
            Checks.raises("11 index " + index, NoSuchElementException.class, () -> x.versionAt(0, index));
        }
        for (int key : new int[] {LEAST, -1, 8, MOST}) {
            Checks.raises("11 key " + key, IndexOutOfBoundsException.class, () -> x.versionAt(key, -1));
        }
        Checks.same("11 last of sixty", Look.full().versionAt(0, 59), 59);
    }

    private static void validOn() {
        DimensionLoader x = some();
        Checks.same("12 first day", x.validOn(0, 10), 1);
        Checks.same("12 last day", x.validOn(0, 19), 1);
        Checks.same("12 next one", x.validOn(0, 20), 0);
        Checks.same("12 day 999", x.validOn(1, 999), 2);
        for (int day : new int[] {0, 9, 30, 49, 60, 70, 999}) {
            Checks.raises("12 none on " + day, NoSuchElementException.class, () -> x.validOn(0, day));
        }
        for (int day : new int[] {LEAST, -1, 1000, MOST}) {
            Checks.raises("12 day " + day, IllegalArgumentException.class, () -> x.validOn(0, day));
        }
        for (int key : new int[] {LEAST, -1, 8, MOST}) {
            Checks.raises("12 key " + key, IndexOutOfBoundsException.class, () -> x.validOn(key, 1000));
        }
    }

    private static void nextAfter() {
        DimensionLoader x = some();
        Checks.same("13 from day 0", x.nextAfter(0, 0), 1);
        Checks.same("13 day ahead", x.nextAfter(0, 9), 1);
        Checks.same("13 first day itself", x.nextAfter(0, 10), 0);
        Checks.same("13 over a gap", x.nextAfter(0, 20), 3);
        Checks.same("13 another key", x.nextAfter(1, 39), 2);
        Checks.raises("13 none", NoSuchElementException.class, () -> x.nextAfter(0, 50));
        Checks.raises("13 none behind 999", NoSuchElementException.class, () -> x.nextAfter(0, 999));
        Checks.raises("13 no version", NoSuchElementException.class, () -> x.nextAfter(2, 0));
        for (int day : new int[] {LEAST, -1, 1000, MOST}) {
            Checks.raises("13 day " + day, IllegalArgumentException.class, () -> x.nextAfter(0, day));
        }
        for (int key : new int[] {LEAST, -1, 8, MOST}) {
            Checks.raises("13 key " + key, IndexOutOfBoundsException.class, () -> x.nextAfter(key, 1000));
        }
    }

    private static void version() {
        DimensionLoader x = some();
        x.addFact(0, 15, 100);
        x.addFact(0, 10, 100);
        int[] due = {0, 10, 20, 6, 2, 10};
        for (int what = 0; what < due.length; what++) {
            Checks.same("14 version(1, " + what + ")", x.version(1, what), due[what]);
        }
        int[] dueInferred = {1, 40, 1000, 0, 1, 960};
        for (int what = 0; what < dueInferred.length; what++) {
            Checks.same("14 version(2, " + what + ")", x.version(2, what), dueInferred[what]);
        }
        for (int what : new int[] {LEAST, -1, 6, MOST}) {
            Checks.raises("14 what " + what, IllegalArgumentException.class, () -> x.version(1, what));
        }
        Checks.same("15 inferred", x.isInferred(2), true);
        Checks.same("15 not inferred", x.isInferred(1), false);
        for (int version : new int[] {LEAST, -1, 4, 5, 60, MOST}) {
            Checks.raises("14 version " + version, IndexOutOfBoundsException.class, () -> x.version(version, 6));
            Checks.raises("15 version " + version, IndexOutOfBoundsException.class, () -> x.isInferred(version));
        }
    }

    private static void firstInferred() {
        DimensionLoader x = new DimensionLoader();
        x.change(0, 0, 1);
        Checks.raises("16 none", NoSuchElementException.class, x::firstInferred);
        x.addFact(5, 30, 1);
        Checks.same("16 one", x.firstInferred(), 1);
        x.addFact(4, 30, 1);
        Checks.same("16 least key", x.firstInferred(), 2);
        x.addFact(6, 30, 1);
        Checks.same("16 least key still", x.firstInferred(), 2);
        x.addFact(7, 29, 1);
        Checks.same("16 least day", x.firstInferred(), 4);
        x.correct(4, 0);
        Checks.same("16 corrected one is left out", x.firstInferred(), 2);
    }

    private static void facts() {
        DimensionLoader x = some();
        Checks.same("19 one", x.factCount(), 1);
        x.addFact(0, 25, -9);
        Checks.same("19 two", x.factCount(), 2);
        int[] due = {0, 25, -9, 0, 5};
        for (int what = 0; what < due.length; what++) {
            Checks.same("20 fact(1, " + what + ")", x.fact(1, what), due[what]);
        }
        x.change(0, 25, 77);
        Checks.same("20 version changes", x.fact(1, 3), 5);
        Checks.same("20 value changes", x.fact(1, 4), 77);
        Checks.same("20 the other one", x.fact(0, 0), 1);
    }

    private static void factWrong() {
        DimensionLoader x = some();
        for (int fact : new int[] {LEAST, -1, 1, 60, MOST}) {
            Checks.raises("20 fact " + fact, IndexOutOfBoundsException.class, () -> x.fact(fact, 5));
        }
        for (int what : new int[] {LEAST, -1, 5, MOST}) {
            Checks.raises("20 what " + what, IllegalArgumentException.class, () -> x.fact(0, what));
        }
    }

    private static void amounts() {
        DimensionLoader x = new DimensionLoader();
        x.change(0, 10, 3);
        x.change(0, 20, 4);
        x.change(0, 30, 3);
        x.change(1, 0, 3);
        x.addFact(0, 10, MOST);
        x.addFact(0, 11, MOST);
        x.addFact(0, 25, -5);
        x.addFact(0, 35, 2);
        x.addFact(1, 35, 1000);
        x.addFact(0, 5, 6);
        Checks.same("21 more than an int", x.amountOf(0), 2L * MOST);
        Checks.same("21 negative", x.amountOf(1), -5);
        Checks.same("21 inferred", x.amountOf(4), 6);
        Checks.same("22 two versions", x.amountFor(0, 3), 2L * MOST + 2);
        Checks.same("22 another key", x.amountFor(1, 3), 1000);
        Checks.same("22 inferred", x.amountFor(0, 0), 6);
        Checks.same("22 no version", x.amountFor(0, 99), 0);
        Checks.same("22 a key without versions", x.amountFor(7, 0), 0);
        x.change(0, 40, 3);
        x.change(0, 50, 8);
        Checks.same("21 no facts", x.amountOf(5), 0);
        x.remove(5);
        for (int version : new int[] {LEAST, -1, 5, 6, 60, MOST}) {
            Checks.raises("21 version " + version, IndexOutOfBoundsException.class, () -> x.amountOf(version));
        }
        for (int key : new int[] {LEAST, -1, 8, MOST}) {
            Checks.raises("22 key " + key, IndexOutOfBoundsException.class, () -> x.amountFor(key, 3));
        }
    }

    private static void pointedAnew() {
        DimensionLoader x = new DimensionLoader();
        x.change(0, 0, 1);
        x.addFact(0, 50, 1);
        x.addFact(0, 60, 1);
        x.addFact(0, 70, 1);
        x.change(0, 60, 2);
        Checks.same("23 change", x.pointedAnew(), 2);
        x.addFact(0, 65, 1);
        Checks.same("23 addFact", x.pointedAnew(), 0);
        x.remove(1);
        Checks.same("23 remove", x.pointedAnew(), 3);
        x.change(0, 60, 1);
        Checks.same("23 change to the same value", x.pointedAnew(), 0);
        Look.type(x, "k0@55=7,k0@65=8");
        x.read();
        Checks.same("23 read counts a fact once", x.pointedAnew(), 3);
        x.stage(0, 50, 6);
        x.stage(0, 52, 5);
        x.loadRows(2);
        Checks.same("23 loadRows", x.pointedAnew(), 1);
        x.loadRows(2);
        Checks.same("23 loadRows without rows", x.pointedAnew(), 0);
        x.correct(2, 8);
        x.correct(3, 8);
        x.join(0);
        Checks.same("23 join", x.pointedAnew(), 2);
        x.close(0, 100);
        Checks.same("23 close", x.pointedAnew(), 0);
        x.change(0, 10, 3);
        x.remove(6);
        Checks.same("23 remove without facts", x.pointedAnew(), 0);
    }

    private static void pointedAnewIsKept() {
        DimensionLoader x = new DimensionLoader();
        x.change(0, 0, 1);
        x.addFact(0, 50, 1);
        x.change(0, 40, 2);
        Checks.raises("23 change", IllegalArgumentException.class, () -> x.change(0, 1000, 1));
        Checks.raises("23 addFact", IndexOutOfBoundsException.class, () -> x.addFact(8, 0, 1));
        Checks.raises("23 close", IllegalStateException.class, () -> x.close(0, 0));
        Checks.raises("23 remove", IndexOutOfBoundsException.class, () -> x.remove(2));
        Checks.raises("23 join", IndexOutOfBoundsException.class, () -> x.join(-1));
        Checks.raises("23 loadRows", IllegalArgumentException.class, () -> x.loadRows(0));
        Checks.raises("23 read", IllegalArgumentException.class, x::read);
        Checks.same("23 kept when a call throws", x.pointedAnew(), 1);
        x.versionCount();
        x.validOn(0, 0);
        x.stage(0, 0, 0);
        x.append('k');
        x.correct(0, 9);
        x.save();
        Checks.same("23 kept when a call asks, stages, appends, corrects or saves", x.pointedAnew(), 1);
        x.restore();
        Checks.same("23 restore", x.pointedAnew(), 0);
    }
}
