import java.util.NoSuchElementException;

/** Each "Throws" sentence: the edges of what is refused, which exception comes first, and that all stays as it was. */
final class RefusedTest {
    private static final int LEAST = Integer.MIN_VALUE;
    private static final int MOST = Integer.MAX_VALUE;
    private static final int[] NO_KEYS = {LEAST, -1, 8, 9, MOST};
    private static final int[] NO_DAYS = {LEAST, -1, 1000, 1001, MOST};
    /** In Look.rich() version 3 is removed and version 6 is not made. */
    private static final int[] NO_VERSIONS = {LEAST, -1, 3, 6, 60, MOST};

    private interface OfNumber {
        void on(DimensionLoader x, int number);
    }

    public static void main(String[] args) {
        noSuchKey();
        noSuchDay();
        noSuchVersion();
        noSuchWhat();
        noSuchPlace();
        close();
        remove();
        removeBehindGap();
        coverage();
        loadRows();
        append();
        read();
        readFull();
        nothingThere();
        refusedOverAndOver();
        Checks.end("RefusedTest");
    }

    private static void refuse(String what, Class<? extends Exception> due, int[] numbers, OfNumber call) {
        for (int number : numbers) {
            Look.refused(what + " " + number, due, Look::rich, x -> call.on(x, number));
        }
    }

    private static void key(String what, OfNumber call) {
        refuse(what + " with key", IndexOutOfBoundsException.class, NO_KEYS, call);
    }

    /** "if there is no such key", which comes ahead of all else that is wrong. */
    private static void noSuchKey() {
        key("change", (x, key) -> x.change(key, 5, 1));
        key("change on no day", (x, key) -> x.change(key, 1000, 1));
        key("addFact", (x, key) -> x.addFact(key, 5, 1));
        key("addFact on no day", (x, key) -> x.addFact(key, -1, 1));
        key("close", (x, key) -> x.close(key, 25));
        key("close on no day", (x, key) -> x.close(key, 1000));
        key("join", (x, key) -> x.join(key));
        key("versionsOf", (x, key) -> x.versionsOf(key));
        key("versionAt", (x, key) -> x.versionAt(key, 0));
        key("versionAt no place", (x, key) -> x.versionAt(key, -1));
        key("validOn", (x, key) -> x.validOn(key, 15));
        key("validOn no day", (x, key) -> x.validOn(key, 1000));
        key("nextAfter", (x, key) -> x.nextAfter(key, 5));
        key("nextAfter no day", (x, key) -> x.nextAfter(key, -1));
        key("amountFor", (x, key) -> x.amountFor(key, 3));
        key("gaps", (x, key) -> x.gaps(key));
        key("gapDay", (x, key) -> x.gapDay(key, 0, true));
        key("gapDay of no gap", (x, key) -> x.gapDay(key, -1, false));
        key("coverage", (x, key) -> x.coverage(key));
        key("isCovered", (x, key) -> x.isCovered(key, 10, 20));
        key("isCovered backwards", (x, key) -> x.isCovered(key, 20, 10));
        key("isCovered from no day", (x, key) -> x.isCovered(key, -1, 20));
        key("isCovered to no day", (x, key) -> x.isCovered(key, 20, 1000));
        key("stage", (x, key) -> x.stage(key, 5, 1));
        key("stage on no day", (x, key) -> x.stage(key, 1000, 1));
    }

    private static void day(String what, OfNumber call) {
        refuse(what + " day", IllegalArgumentException.class, NO_DAYS, call);
    }

    /** "if day is out of range", "if from or to is not a day". */
    private static void noSuchDay() {
        day("change on", (x, day) -> x.change(0, day, 1));
        day("change of a key without versions on", (x, day) -> x.change(7, day, 1));
        day("addFact on", (x, day) -> x.addFact(0, day, 1));
        day("addFact of a key without versions on", (x, day) -> x.addFact(7, day, 1));
        day("close on", (x, day) -> x.close(0, day));
        day("close of a key without versions on", (x, day) -> x.close(7, day));
        day("validOn", (x, day) -> x.validOn(0, day));
        day("validOn of a key without versions on", (x, day) -> x.validOn(7, day));
        day("nextAfter", (x, day) -> x.nextAfter(0, day));
        day("nextAfter of a key without versions, behind", (x, day) -> x.nextAfter(7, day));
        day("isCovered from", (x, day) -> x.isCovered(0, day, 15));
        day("isCovered to", (x, day) -> x.isCovered(0, 15, day));
        day("isCovered from and to", (x, day) -> x.isCovered(0, day, day));
        day("isCovered from 999 to", (x, day) -> x.isCovered(0, 999, day));
        day("isCovered to 0 from", (x, day) -> x.isCovered(0, day, 0));
        day("isCovered of a key without versions from", (x, day) -> x.isCovered(7, day, 0));
        day("isCovered of a key without versions to", (x, day) -> x.isCovered(7, 999, day));
        day("stage on", (x, day) -> x.stage(0, day, 1));
    }

    private static void version(String what, OfNumber call) {
        refuse(what + " of version", IndexOutOfBoundsException.class, NO_VERSIONS, call);
    }

    /** "if there is no such version", and "There is no such version if it is removed". */
    private static void noSuchVersion() {
        version("correct", (x, version) -> x.correct(version, 1));
        version("remove", (x, version) -> x.remove(version));
        version("isInferred", (x, version) -> x.isInferred(version));
        version("amountOf", (x, version) -> x.amountOf(version));
        for (int what : new int[] {-1, 0, 1, 2, 3, 4, 5, 6}) {
            version("number " + what, (x, version) -> x.version(version, what));
        }
        Look.Maker joined = () -> {
            DimensionLoader x = Look.rich();
            x.correct(1, 9);
            x.join(0);
            return x;
        };
        Checks.same("join removes version 5", joined.make().removedCount(), 2);
        Look.refused("correct of a joined one", IndexOutOfBoundsException.class, joined, x -> x.correct(5, 9));
        Look.refused("remove of a joined one", IndexOutOfBoundsException.class, joined, x -> x.remove(5));
        Look.refused("version of a joined one", IndexOutOfBoundsException.class, joined, x -> x.version(5, 0));
        Look.refused("isInferred of a joined one", IndexOutOfBoundsException.class, joined, x -> x.isInferred(5));
        Look.refused("amountOf of a joined one", IndexOutOfBoundsException.class, joined, x -> x.amountOf(5));
    }

    /** "if what is not 0 to 5", "0 to 4", "0 to 2"; "if there is no such fact". */
    private static void noSuchWhat() {
        int[] facts = {LEAST, -1, 3, 59, 60, MOST};
        refuse("version what", IllegalArgumentException.class, new int[] {LEAST, -1, 6, 7, MOST}, (x, what) -> x.version(0, what));
        refuse("fact what", IllegalArgumentException.class, new int[] {LEAST, -1, 5, 6, MOST}, (x, what) -> x.fact(0, what));
        refuse("nextRow what", IllegalArgumentException.class, new int[] {LEAST, -1, 3, 4, MOST}, (x, what) -> x.nextRow(what));
        for (int what : new int[] {-1, 0, 1, 2, 3, 4, 5}) {
            refuse("number " + what + " of fact", IndexOutOfBoundsException.class, facts, (x, fact) -> x.fact(fact, what));
        }
        for (int what : new int[] {LEAST, -1, 3, MOST}) {
            Look.refused("nextRow without rows, what " + what, IllegalArgumentException.class, DimensionLoader::new, x -> x.nextRow(what));
        }
    }

    /** "if there is no such version" of versionAt, "if there is no such gap", "if none is valid", "if there is none". */
    private static void noSuchPlace() {
        Class<? extends Exception> due = NoSuchElementException.class;
        refuse("versionAt place", due, new int[] {LEAST, -1, 4, 5, 59, 60, MOST}, (x, index) -> x.versionAt(0, index));
        refuse("versionAt place of one", due, new int[] {LEAST, -1, 1, MOST}, (x, index) -> x.versionAt(1, index));
        refuse("versionAt place of none", due, new int[] {LEAST, -1, 0, 1, MOST}, (x, index) -> x.versionAt(7, index));
        for (boolean isLast : new boolean[] {true, false}) {
            refuse("gapDay, one gap, gap", due, new int[] {LEAST, -1, 1, 2, MOST}, (x, gap) -> x.gapDay(0, gap, isLast));
            refuse("gapDay, no gap, gap", due, new int[] {LEAST, -1, 0, 1, MOST}, (x, gap) -> x.gapDay(1, gap, isLast));
            refuse("gapDay, no version, gap", due, new int[] {LEAST, -1, 0, 1, MOST}, (x, gap) -> x.gapDay(7, gap, isLast));
        }
        refuse("validOn", due, new int[] {0, 9, 40, 49}, (x, day) -> x.validOn(0, day));
        refuse("validOn of an inferred one", due, new int[] {0, 39}, (x, day) -> x.validOn(1, day));
        refuse("validOn of none", due, new int[] {0, 500, 999}, (x, day) -> x.validOn(7, day));
        refuse("nextAfter the last one", due, new int[] {50, 51, 999}, (x, day) -> x.nextAfter(0, day));
        refuse("nextAfter of none", due, new int[] {0, 500, 999}, (x, day) -> x.nextAfter(7, day));
    }

    /** "if no version is valid on the day"; "if it begins on the day, or a fact on the day or later points to it". */
    private static void close() {
        refuse("close, none valid on", NoSuchElementException.class, new int[] {0, 9, 40, 49}, (x, day) -> x.close(0, day));
        refuse("close, no version on", NoSuchElementException.class, new int[] {0, 500, 999}, (x, day) -> x.close(7, day));
        refuse("close, begins on", IllegalStateException.class, new int[] {10, 20, 30, 50}, (x, day) -> x.close(0, day));
        refuse("close, fact on or behind", IllegalStateException.class, new int[] {11, 12, 31, 34, 35}, (x, day) -> x.close(0, day));
        Look.refused("close of an inferred one that begins on", IllegalStateException.class, Look::rich, x -> x.close(1, 40));
        Checks.same("close, fact on the day before", Look.rich().close(0, 13), 20);
        Checks.same("close, fact on the day before, one day is left out", Look.rich().close(0, 36), 40);
        Checks.same("close, facts of others", Look.rich().close(0, 21), 30);
        Checks.same("close, fact on the first day", Look.rich().close(1, 41), 1000);
    }

    /** "if a fact points to it, and no version of its key ends at the day at which it begins". */
    private static void remove() {
        Look.refused("remove, fact, the first one of its key", IllegalStateException.class, Look::rich, x -> x.remove(0));
        Look.refused("remove, fact, the only one of its key", IllegalStateException.class, Look::rich, x -> x.remove(4));
        Checks.same("remove, fact, but one ends there", Look.rich().remove(5), 1);
        Checks.same("remove, no fact, none ends there", Look.rich().remove(2), 0);
        Checks.same("remove, no fact, one ends there", Look.rich().remove(1), 0);
        Look.Maker neighborOfOtherKey = () -> {
            DimensionLoader x = Look.rich();
            x.change(2, 5, 5);
            x.close(2, 10);
            return x;
        };
        Look.refused("remove, fact, one of another key ends there", IllegalStateException.class, neighborOfOtherKey, x -> x.remove(0));
    }

    private static void removeBehindGap() {
        Look.Maker gap = () -> {
            DimensionLoader x = Look.rich();
            x.addFact(0, 50, 1);
            return x;
        };
        Look.refused("remove, fact, a gap before", IllegalStateException.class, gap, x -> x.remove(2));
        Look.Maker oneDay = () -> {
            DimensionLoader x = Look.rich();
            x.addFact(0, 50, 1);
            x.change(0, 40, 1);
            x.close(0, 49);
            return x;
        };
        Look.refused("remove, fact, a gap of one day before", IllegalStateException.class, oneDay, x -> x.remove(2));
        DimensionLoader none = gap.make();
        none.change(0, 40, 1);
        Checks.same("remove, fact, the gap is filled", none.remove(2), 1);
    }

    /** "if it has no version". */
    private static void coverage() {
        Look.refused("coverage of no version", ArithmeticException.class, Look::rich, x -> x.coverage(7));
        Look.refused("coverage of a new object", ArithmeticException.class, DimensionLoader::new, x -> x.coverage(0));
    }

    /** "if limit is out of range". */
    private static void loadRows() {
        int[] limits = {LEAST, -1, 0, 21, 22, MOST};
        refuse("loadRows limit", IllegalArgumentException.class, limits, (x, limit) -> x.loadRows(limit));
        for (int limit : limits) {
            Look.refused("loadRows without rows, limit " + limit, IllegalArgumentException.class, DimensionLoader::new,
                    x -> x.loadRows(limit));
        }
    }

    /** "if the character code is out of range", which comes ahead of "if the input has 30 characters". */
    private static void append() {
        int[] codes = {0, 1, 10, 31, 127, 128, 160, 255, 256 + 'k', 0x8000 + 'k', 65535};
        refuse("append code", IllegalArgumentException.class, codes, (x, code) -> x.append((char) code));
        Look.Maker thirty = () -> {
            DimensionLoader x = Look.rich();
            Look.type(x, ",k7@7=7,k7@9=9,k7@11=123");
            return x;
        };
        Look.refused("append to thirty", IllegalStateException.class, thirty, x -> x.append('4'));
        Look.refused("append 32 to thirty", IllegalStateException.class, thirty, x -> x.append((char) 32));
        Look.refused("append 126 to thirty", IllegalStateException.class, thirty, x -> x.append((char) 126));
        Look.refused("append 31 to thirty", IllegalArgumentException.class, thirty, x -> x.append((char) 31));
        Look.refused("append 127 to thirty", IllegalArgumentException.class, thirty, x -> x.append((char) 127));
        Checks.same("thirty are read", thirty.make().read(), 4);
    }

    /** A wrong text changes the input and the error position, and nothing else. */
    private static void read() {
        DimensionLoader x = Look.rich();
        Look.type(x, ",k7@6=6,");
        Checks.raises("read of a wrong text", IllegalArgumentException.class, x::read);
        Checks.same("read of a wrong text keeps its position", x.errorPosition(), 14);
        DimensionLoader same = Look.rich();
        same.read();
        same.remove(6);
        Checks.same("a wrong text keeps pointedAnew", x.pointedAnew(), 1);
        Checks.sameText("a wrong text changes no version", Look.key(x, 0) + Look.key(x, 1) + Look.key(x, 7),
                Look.key(same, 0) + Look.key(same, 1));
        Checks.same("a wrong text makes no number", x.change(7, 0, 0), 6);
        Checks.same("a wrong text leaves the rows", x.staged(), 2);
        Checks.same("a wrong text empties the input", x.append('k'), 1);
        Checks.same("a wrong text leaves what was saved", x.restore(), 1);
    }

    /** A text that is wrong is told ahead of a new version that would be needed. */
    private static void readFull() {
        DimensionLoader x = Look.full();
        Look.type(x, "k1@1=1,k1");
        Checks.raises("wrong text of a full object", IllegalArgumentException.class, x::read);
        Checks.same("wrong text of a full object", x.errorPosition(), 9);
        Look.type(x, "k0@10=77,k1@1=1");
        Checks.raises("right text of a full object", IllegalStateException.class, x::read);
        Checks.same("right text of a full object, the position stays", x.errorPosition(), 9);
        Checks.same("right text of a full object, the input is empty", x.append('k'), 1);
        Checks.sameText("right text of a full object, no change", Look.key(x, 0), Look.key(Look.full(), 0));
    }

    /** "if no version is inferred", "if there is no staged row", "if none was kept", "if nothing was saved". */
    private static void nothingThere() {
        Look.refused("firstInferred of a new object", NoSuchElementException.class, DimensionLoader::new, DimensionLoader::firstInferred);
        Look.Maker corrected = () -> {
            DimensionLoader x = Look.rich();
            x.correct(4, 0);
            return x;
        };
        Look.refused("firstInferred, none inferred", NoSuchElementException.class, corrected, DimensionLoader::firstInferred);
        Look.Maker loaded = () -> {
            DimensionLoader x = Look.rich();
            x.loadRows(20);
            return x;
        };
        for (int what = 0; what < 3; what++) {
            int asked = what;
            Look.refused("nextRow of a new object", NoSuchElementException.class, DimensionLoader::new, x -> x.nextRow(asked));
            Look.refused("nextRow, all loaded", NoSuchElementException.class, loaded, x -> x.nextRow(asked));
        }
        Look.refused("errorPosition of a new object", NoSuchElementException.class, DimensionLoader::new, DimensionLoader::errorPosition);
        Look.refused("restore of a new object", IllegalStateException.class, DimensionLoader::new, DimensionLoader::restore);
        Look.refused("restore of a filled object", IllegalStateException.class, () -> Look.filled(3), DimensionLoader::restore);
    }

    /** Many refused calls one behind the other leave as little as one. */
    private static void refusedOverAndOver() {
        DimensionLoader x = Look.rich();
        for (int i = 0; i < 60; i++) {
            Checks.raises("change over and over", IllegalArgumentException.class, () -> x.change(0, 1000, 1));
            Checks.raises("addFact over and over", IndexOutOfBoundsException.class, () -> x.addFact(8, 0, 1));
            Checks.raises("stage over and over", IllegalArgumentException.class, () -> x.stage(0, -1, 1));
            Checks.raises("append over and over", IllegalArgumentException.class, () -> x.append((char) 31));
        }
        Checks.sameText("over and over", Look.all(x), Look.all(Look.rich()));
    }
}
