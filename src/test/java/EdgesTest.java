import java.util.NoSuchElementException;

/** The least and the greatest key, day, value and amount that are taken, and an object in which there is nothing. */
final class EdgesTest {
    private static final int LEAST = Integer.MIN_VALUE;
    private static final int MOST = Integer.MAX_VALUE;

    public static void main(String[] args) {
        keys();
        changeDays();
        factDays();
        closeDays();
        removeDays();
        nextDays();
        versionDays();
        gapDays();
        leastGaps();
        coverage();
        coveredDays();
        rowDays();
        values();
        alikeValues();
        rowValues();
        amounts();
        nothing();
        nothingAnyMore();
        oneOfEach();
        firstInferred();
        Checks.end("EdgesTest");
    }

    /** "There are 8 keys, numbered from 0": each one has versions, facts, rows and gaps of its own. */
    private static void keys() {
        DimensionLoader x = new DimensionLoader();
        for (int key = 0; key < 8; key++) {
            Checks.same("change key", x.change(key, 10 * key, key), key);
            Checks.same("addFact key", x.addFact(key, 10 * key + 2, 1 + key), key);
            Checks.same("close key", x.close(key, 10 * key + 5), 1000);
            Checks.same("stage key", x.stage(key, 0, 50), key + 1);
        }
        for (int key = 0; key < 8; key++) {
            Checks.same("versionsOf key", x.versionsOf(key), 1);
            Checks.same("versionAt key", x.versionAt(key, 0), key);
            Checks.same("validOn key", x.validOn(key, 10 * key), key);
            Checks.same("amountFor key", x.amountFor(key, key), 1 + key);
            Checks.same("amountFor another value", x.amountFor(key, key + 1), 0);
            Checks.same("version key", x.version(key, 0), key);
            Checks.same("fact key", x.fact(key, 0), key);
            Checks.same("gaps key", x.gaps(key), 1);
            Checks.same("gapDay key", x.gapDay(key, 0, false), 10 * key + 5);
            Checks.sameDouble("coverage key", x.coverage(key), 5.0 / (1000 - 10 * key));
            Checks.same("isCovered key", x.isCovered(key, 10 * key, 10 * key + 4), true);
            Checks.same("join key", x.join(key), 0);
            if (key > 0) {
                Checks.same("nextAfter key", x.nextAfter(key, 10 * key - 1), key);
                Checks.raises("validOn key", NoSuchElementException.class, outside(x, key));
            }
        }
        Checks.raises("nextAfter key 0", NoSuchElementException.class, () -> x.nextAfter(0, 0));
        for (int key = 0; key < 8; key++) {
            Checks.same("nextRow key", x.nextRow(0), key);
            x.loadRows(1);
        }
        Checks.same("one version more for each key but 0", x.versionCount(), 15);
    }

    private static Checks.Call outside(DimensionLoader x, int key) {
        return () -> x.validOn(key, 10 * key - 1);
    }

    /** "Days are numbered from 0 to 999"; a version ends at 1000 at most. */
    private static void changeDays() {
        DimensionLoader x = new DimensionLoader();
        Checks.same("change on 999", x.change(0, 999, 1), 0);
        Checks.sameText("change on 999", Look.key(x, 0), "0:999-1000=1");
        Checks.same("change on 0", x.change(0, 0, 2), 1);
        Checks.sameText("change on 0", Look.key(x, 0), "1:0-999=2 0:999-1000=1");
        Checks.same("change on 998", x.change(0, 998, 3), 2);
        Checks.same("change on 1", x.change(0, 1, 4), 3);
        Checks.sameText("versions of one day", Look.key(x, 0), "1:0-1=2 3:1-998=4 2:998-999=3 0:999-1000=1");
        Checks.same("change on 0 again", x.change(0, 0, 5), 1);
        Checks.same("change on 999 again", x.change(0, 999, 5), 0);
        Checks.same("no new ones", x.versionCount(), 4);
    }

    private static void factDays() {
        DimensionLoader x = new DimensionLoader();
        Checks.same("fact on 999", x.addFact(0, 999, 1), 0);
        Checks.sameText("fact on 999", Look.key(x, 0), "0:999-1000=0?");
        Checks.same("fact on 998", x.addFact(0, 998, 1), 0);
        Checks.same("fact on 0", x.addFact(0, 0, 1), 0);
        Checks.sameText("fact on 0", Look.key(x, 0), "0:0-1000=0?");
        Checks.same("days of facts", x.fact(0, 1), 999);
        Checks.same("days of facts", x.fact(2, 1), 0);
        x.change(1, 1, 7);
        Checks.same("fact on 0 ahead of 1", x.addFact(1, 0, 1), 2);
        Checks.sameText("a version of one day", Look.at(x, 2), "1:0-1=0?");
        Checks.same("fact on the first day", x.addFact(1, 1, 1), 1);
        x.change(2, 0, 7);
        x.close(2, 999);
        Checks.same("fact on 998, the last day", x.addFact(2, 998, 1), 3);
        Checks.same("fact on 999, behind it", x.addFact(2, 999, 1), 4);
        Checks.sameText("fact on 999, behind it", Look.at(x, 4), "2:999-1000=0?");
    }

    private static void closeDays() {
        DimensionLoader x = new DimensionLoader();
        x.change(0, 0, 1);
        Checks.raises("close on 0 where it begins", IllegalStateException.class, () -> x.close(0, 0));
        Checks.same("close on 999", x.close(0, 999), 1000);
        Checks.raises("not valid on this day", NoSuchElementException.class, () -> x.close(0, 999));
        Checks.same("close on 998", x.close(0, 998), 999);
        Checks.same("close on 1", x.close(0, 1), 998);
        Checks.raises("close on 1, not valid", NoSuchElementException.class, () -> x.close(0, 1));
        Checks.same("valid on 0", x.validOn(0, 0), 0);
        Checks.raises("not valid on 1", NoSuchElementException.class, () -> x.validOn(0, 1));
        x.change(1, 999, 1);
        Checks.raises("close on 999 where it begins", IllegalStateException.class, () -> x.close(1, 999));
        x.change(2, 10, 1);
        x.change(2, 20, 2);
        Checks.same("close on the last day", x.close(2, 19), 20);
        Checks.sameText("only the one that is valid on the day", Look.key(x, 2), "2:10-19=1 3:20-1000=2");
        x.addFact(3, 999, 1);
        x.addFact(3, 997, 1);
        Checks.raises("close on a fact's day", IllegalStateException.class, () -> x.close(3, 999));
        Checks.raises("close ahead of a fact's day", IllegalStateException.class, () -> x.close(3, 998));
        x.addFact(4, 998, 1);
        Checks.same("close on the day behind a fact", x.close(4, 999), 1000);
    }

    private static void removeDays() {
        DimensionLoader x = new DimensionLoader();
        x.change(0, 0, 1);
        x.change(0, 1, 2);
        x.change(0, 999, 3);
        Checks.same("remove the one on 999", x.remove(2), 0);
        Checks.sameText("the one before goes to 1000", Look.key(x, 0), "0:0-1=1 1:1-1000=2");
        Checks.same("remove the one on 0", x.remove(0), 0);
        Checks.sameText("the key begins on 1", Look.key(x, 0), "1:1-1000=2");
        x.change(1, 0, 1);
        x.close(1, 998);
        x.change(1, 999, 2);
        Checks.same("remove behind a gap of one day", x.remove(4), 0);
        Checks.sameText("the one before the gap stays", Look.key(x, 1), "3:0-998=1");
        Checks.same("remove the last one", x.remove(3), 0);
        Checks.same("none left", x.versionsOf(1), 0);
    }

    private static void nextDays() {
        DimensionLoader x = new DimensionLoader();
        x.change(0, 999, 1);
        x.change(0, 0, 2);
        x.change(0, 1, 3);
        Checks.same("next after 0", x.nextAfter(0, 0), 2);
        Checks.same("next after 1", x.nextAfter(0, 1), 0);
        Checks.same("next after 998", x.nextAfter(0, 998), 0);
        Checks.raises("next after 999", NoSuchElementException.class, () -> x.nextAfter(0, 999));
        Checks.same("valid on 0", x.validOn(0, 0), 1);
        Checks.same("valid on 1", x.validOn(0, 1), 2);
        Checks.same("valid on 998", x.validOn(0, 998), 2);
        Checks.same("valid on 999", x.validOn(0, 999), 0);
    }

    /** The days of a version: 1 to 1000. */
    private static void versionDays() {
        DimensionLoader x = new DimensionLoader();
        x.change(0, 0, 1);
        Checks.same("all days", x.version(0, 5), 1000);
        Checks.same("end of all days", x.version(0, 2), 1000);
        Checks.same("first day of all", x.version(0, 1), 0);
        x.close(0, 1);
        Checks.same("one day", x.version(0, 5), 1);
        Checks.same("end of one day", x.version(0, 2), 1);
        x.change(7, 999, 1);
        Checks.same("the last day", x.version(1, 5), 1);
        Checks.same("first day of the last day", x.version(1, 1), 999);
        Checks.same("no facts", x.version(1, 4), 0);
    }

    private static void gapDays() {
        DimensionLoader x = new DimensionLoader();
        for (int key = 0; key < 8; key++) {
            x.change(key, 0, 1);
            Checks.same("no gap", x.gaps(key), 0);
            x.close(key, 1);
            Checks.same("one gap", x.gaps(key), 1);
            Checks.same("first day of the greatest gap", x.gapDay(key, 0, false), 1);
            Checks.same("last day of the greatest gap", x.gapDay(key, 0, true), 999);
        }
        Checks.same("the most days in gaps", x.gapDays(), 8 * 999);
        DimensionLoader y = new DimensionLoader();
        for (int i = 0; i < 60; i++) {
            y.change(5, 2 * i, 1);
            y.close(5, 2 * i + 1);
        }
        Checks.same("sixty gaps", y.gaps(5), 60);
        Checks.same("days of sixty gaps", y.gapDays(), 940);
        Checks.same("gap 0", y.gapDay(5, 0, false), 1);
        Checks.same("gap 0 is a day", y.gapDay(5, 0, true), 1);
        Checks.same("gap 58", y.gapDay(5, 58, true), 117);
        Checks.same("gap 59", y.gapDay(5, 59, false), 119);
        Checks.same("gap 59 goes to the end", y.gapDay(5, 59, true), 999);
        Checks.raises("gap 60", NoSuchElementException.class, () -> y.gapDay(5, 60, true));
        Checks.raises("gap -1", NoSuchElementException.class, () -> y.gapDay(5, -1, true));
        Checks.sameDouble("coverage with sixty gaps", y.coverage(5), 60.0 / 1000.0);
    }

    /** A gap may be one day; days ahead of the first version are none. */
    private static void leastGaps() {
        DimensionLoader x = new DimensionLoader();
        x.change(0, 999, 1);
        Checks.same("no gap ahead of the first version", x.gaps(0), 0);
        Checks.same("no days of it", x.gapDays(), 0);
        x.change(0, 500, 2);
        Checks.same("no gap between neighbors", x.gaps(0), 0);
        x.close(0, 998);
        Checks.same("a gap of one day", x.gaps(0), 1);
        Checks.same("its first day", x.gapDay(0, 0, false), 998);
        Checks.same("its last day", x.gapDay(0, 0, true), 998);
        Checks.same("one day", x.gapDays(), 1);
        x.remove(0);
        Checks.same("it becomes two days", x.gapDays(), 2);
        Checks.same("its last day is 999", x.gapDay(0, 0, true), 999);
        x.change(0, 998, 2);
        Checks.same("filled", x.gaps(0), 0);
        x.close(0, 999);
        Checks.same("the last day alone", x.gapDay(0, 0, false), 999);
        x.remove(1);
        x.remove(2);
        Checks.same("no version, no gap", x.gaps(0), 0);
        Checks.same("no version, no days", x.gapDays(), 0);
    }

    private static void coverage() {
        DimensionLoader x = new DimensionLoader();
        x.change(0, 0, 1);
        Checks.sameDouble("all days", x.coverage(0), 1.0);
        x.close(0, 1);
        Checks.sameDouble("the least", x.coverage(0), 0.001);
        x.change(1, 999, 1);
        Checks.sameDouble("the last day", x.coverage(1), 1.0);
        x.change(2, 997, 1);
        x.close(2, 998);
        Checks.sameDouble("a third", x.coverage(2), 1.0 / 3.0);
        x.change(2, 999, 1);
        Checks.sameDouble("two thirds", x.coverage(2), 2.0 / 3.0);
        x.addFact(3, 500, 1);
        Checks.sameDouble("inferred ones count", x.coverage(3), 1.0);
        x.close(3, 875);
        Checks.sameDouble("inferred ones count", x.coverage(3), 0.75);
        x.change(4, 0, 1);
        x.change(4, 400, 2);
        x.remove(6);
        Checks.sameDouble("removed ones do not", x.coverage(4), 1.0);
    }

    private static void coveredDays() {
        DimensionLoader x = new DimensionLoader();
        x.change(0, 0, 1);
        x.change(0, 1, 2);
        x.change(0, 999, 3);
        Checks.same("all days", x.isCovered(0, 0, 999), true);
        Checks.same("day 0", x.isCovered(0, 0, 0), true);
        Checks.same("day 999", x.isCovered(0, 999, 999), true);
        x.close(0, 998);
        Checks.same("up to the gap", x.isCovered(0, 0, 997), true);
        Checks.same("the gap", x.isCovered(0, 998, 998), false);
        Checks.same("into the gap", x.isCovered(0, 0, 998), false);
        Checks.same("out of the gap", x.isCovered(0, 998, 999), false);
        Checks.same("over the gap", x.isCovered(0, 0, 999), false);
        Checks.same("behind the gap", x.isCovered(0, 999, 999), true);
        Checks.same("backwards over the gap", x.isCovered(0, 999, 0), true);
        Checks.same("backwards by a day in the gap", x.isCovered(0, 998, 997), true);
        x.change(1, 1, 1);
        Checks.same("ahead of the first one", x.isCovered(1, 0, 0), false);
        Checks.same("from ahead of the first one", x.isCovered(1, 0, 999), false);
        Checks.same("from the first one", x.isCovered(1, 1, 999), true);
        x.addFact(2, 5, 1);
        Checks.same("by an inferred one", x.isCovered(2, 5, 999), true);
        Checks.same("without versions", x.isCovered(7, 0, 999), false);
        Checks.same("without versions, a day", x.isCovered(7, 999, 999), false);
        Checks.same("without versions, backwards", x.isCovered(7, 999, 998), true);
    }

    private static void rowDays() {
        DimensionLoader x = new DimensionLoader();
        x.stage(7, 999, 1);
        x.stage(0, 999, 2);
        x.stage(7, 0, 3);
        x.stage(0, 0, 4);
        x.stage(7, 0, 5);
        String[] due = {"0 0 4", "7 0 3", "7 0 5", "0 999 2", "7 999 1"};
        for (String row : due) {
            Checks.sameText("the next row", x.nextRow(0) + " " + x.nextRow(1) + " " + x.nextRow(2), row);
            Checks.same("one row", x.loadRows(1), 1);
        }
        Checks.sameText("key 0", Look.key(x, 0), "0:0-999=4 2:999-1000=2");
        Checks.sameText("key 7", Look.key(x, 7), "1:0-999=5 3:999-1000=1");
    }

    /** Any int is a value. */
    private static void values() {
        DimensionLoader x = new DimensionLoader();
        Checks.same("least value", x.change(0, 0, LEAST), 0);
        Checks.same("greatest value", x.change(0, 1, MOST), 1);
        Checks.same("least value", x.version(0, 3), LEAST);
        Checks.same("greatest value", x.version(1, 3), MOST);
        Checks.same("value that it has", x.change(0, 500, MOST), 1);
        Checks.same("value -1", x.change(0, 500, -1), 2);
        Checks.same("value -1", x.version(2, 3), -1);
        Checks.same("correct to the least", x.correct(1, LEAST), MOST);
        Checks.same("correct to the greatest", x.correct(1, MOST), LEAST);
        Checks.same("correct to 0", x.correct(1, 0), MOST);
        Checks.same("correct from 0", x.correct(1, MOST), 0);
        x.addFact(0, 0, 5);
        x.addFact(0, 1, 6);
        Checks.same("amountFor the least", x.amountFor(0, LEAST), 5);
        Checks.same("amountFor the greatest", x.amountFor(0, MOST), 6);
        Checks.same("amountFor 0", x.amountFor(0, 0), 0);
        Checks.same("value of a fact's version", x.fact(0, 4), LEAST);
        Checks.same("value of a fact's version", x.fact(1, 4), MOST);
    }

    /** Values are alike only if they are equal, however they differ. */
    private static void alikeValues() {
        int[][] pairs = {{LEAST, MOST}, {MOST, LEAST}, {LEAST, 0}, {1, -1}, {LEAST, LEAST + 1}, {MOST, MOST - 1},
            {0, 65536}, {7, 7 + 256}, {128, 128 + 65536}};
        for (int[] pair : pairs) {
            DimensionLoader x = new DimensionLoader();
            x.change(0, 0, pair[0]);
            Checks.same("other value", x.change(0, 9, pair[1]), 1);
            Checks.same("not joined", x.join(0), 0);
            x.correct(1, pair[0]);
            Checks.same("joined", x.join(0), 1);
            Checks.same("joined value", x.version(0, 3), pair[0]);
            Checks.same("value that it has", x.change(0, 9, pair[0]), 0);
            Checks.same("no new one", x.versionCount(), 1);
        }
    }

    private static void rowValues() {
        DimensionLoader x = new DimensionLoader();
        x.stage(0, 5, MOST);
        Checks.same("greatest value of a row", x.nextRow(2), MOST);
        x.loadRows(1);
        x.stage(0, 5, LEAST);
        Checks.same("least value of a row", x.nextRow(2), LEAST);
        Checks.same("greatest value is loaded", x.version(0, 3), MOST);
        x.loadRows(1);
        Checks.same("least value is loaded", x.version(0, 3), LEAST);
        x.stage(0, 5, MOST);
        x.stage(0, 5, LEAST);
        Checks.same("rows are not ordered by value", x.nextRow(2), MOST);
        x.save();
        x.loadRows(1);
        x.restore();
        Checks.same("greatest value of a restored row", x.nextRow(2), MOST);
        Checks.same("least value restored", x.version(0, 3), LEAST);
    }

    /** "the sum of the amounts ... as a long": sixty of the greatest do not wrap around. */
    private static void amounts() {
        for (int amount : new int[] {LEAST, MOST, -1, 0, 1}) {
            DimensionLoader x = new DimensionLoader();
            x.change(0, 0, 3);
            for (int i = 0; i < 60; i++) {
                x.addFact(0, i, amount);
            }
            Checks.same("an amount", x.fact(59, 2), amount);
            Checks.same("sum of sixty", x.amountOf(0), 60L * amount);
            Checks.same("sum of sixty for a value", x.amountFor(0, 3), 60L * amount);
            x.change(0, 30, 4);
            x.change(0, 31, 3);
            Checks.same("sum of thirty", x.amountOf(0), 30L * amount);
            Checks.same("sum of one", x.amountOf(1), amount);
            Checks.same("sum over two versions", x.amountFor(0, 3), 59L * amount);
        }
        DimensionLoader both = new DimensionLoader();
        both.addFact(1, 5, MOST);
        both.addFact(1, 5, LEAST);
        Checks.same("greatest and least", both.amountOf(0), -1);
        both.addFact(1, 5, LEAST);
        Checks.same("less than an int", both.amountFor(1, 0), (long) LEAST - 1);
    }

    /** A new object has nothing: each count is 0, and what asks for one of them is refused. */
    private static void nothing() {
        holdsNothing("new", DimensionLoader::new);
        DimensionLoader x = new DimensionLoader();
        Checks.same("save of nothing", x.save(), 0);
        Checks.same("restore of nothing", x.restore(), 0);
        Checks.same("clear of nothing", x.clear(), 0);
        Checks.same("join of nothing", x.join(7), 0);
        Checks.same("loadRows of nothing", x.loadRows(20), 0);
        Checks.same("pointedAnew of nothing", x.pointedAnew(), 0);
        Checks.raises("read of nothing", IllegalArgumentException.class, x::read);
        Checks.same("error position of nothing", x.errorPosition(), 0);
        Checks.same("first version", x.change(7, 999, 0), 0);
    }

    private static void holdsNothing(String what, Look.Maker maker) {
        DimensionLoader x = maker.make();
        Checks.same(what + " versionCount", x.versionCount(), 0);
        Checks.same(what + " inferredCount", x.inferredCount(), 0);
        Checks.same(what + " factCount", x.factCount(), 0);
        Checks.same(what + " staged", x.staged(), 0);
        Checks.same(what + " gapDays", x.gapDays(), 0);
        Checks.same(what + " pointedAnew", x.pointedAnew(), 0);
        Checks.raises(what + " firstInferred", NoSuchElementException.class, x::firstInferred);
        Checks.raises(what + " nextRow", NoSuchElementException.class, () -> x.nextRow(0));
        Checks.raises(what + " fact", IndexOutOfBoundsException.class, () -> x.fact(0, 0));
        Checks.raises(what + " version", IndexOutOfBoundsException.class, () -> x.version(0, 0));
        Checks.raises(what + " isInferred", IndexOutOfBoundsException.class, () -> x.isInferred(0));
        Checks.raises(what + " amountOf", IndexOutOfBoundsException.class, () -> x.amountOf(0));
        Checks.raises(what + " correct", IndexOutOfBoundsException.class, () -> x.correct(0, 1));
        Checks.raises(what + " remove", IndexOutOfBoundsException.class, () -> x.remove(0));
        for (int key = 0; key < 8; key++) {
            int asked = key;
            Checks.same(what + " versionsOf", x.versionsOf(key), 0);
            Checks.same(what + " gaps", x.gaps(key), 0);
            Checks.same(what + " amountFor", x.amountFor(key, 0), 0);
            Checks.same(what + " isCovered", x.isCovered(key, 0, 0), false);
            Checks.same(what + " isCovered backwards", x.isCovered(key, 1, 0), true);
            Checks.raises(what + " versionAt", NoSuchElementException.class, () -> x.versionAt(asked, 0));
            Checks.raises(what + " validOn", NoSuchElementException.class, () -> x.validOn(asked, 0));
            Checks.raises(what + " nextAfter", NoSuchElementException.class, () -> x.nextAfter(asked, 0));
            Checks.raises(what + " gapDay", NoSuchElementException.class, () -> x.gapDay(asked, 0, true));
            Checks.raises(what + " coverage", ArithmeticException.class, () -> x.coverage(asked));
            Checks.raises(what + " close", NoSuchElementException.class, () -> x.close(asked, 0));
            Checks.same(what + " join", x.join(key), 0);
        }
    }

    /** Nothing there once more: cleared, restored to nothing, or all removed and loaded. */
    private static void nothingAnyMore() {
        holdsNothing("cleared", () -> {
            DimensionLoader x = Look.rich();
            Checks.same("clear", x.clear(), 5);
            return x;
        });
        holdsNothing("restored to nothing", () -> {
            DimensionLoader x = new DimensionLoader();
            x.save();
            x.change(0, 0, 1);
            x.addFact(0, 5, 1);
            x.addFact(1, 0, 1);
            x.stage(0, 0, 1);
            x.change(0, 3, 2);
            Checks.same("restore", x.restore(), 0);
            return x;
        });
        DimensionLoader removed = new DimensionLoader();
        removed.change(0, 0, 1);
        removed.change(0, 5, 2);
        removed.remove(0);
        removed.remove(1);
        holdsNothing("removed", () -> removed);
        Checks.same("removed ones are counted", removed.removedCount(), 2);
        Checks.same("clear of removed ones", removed.clear(), 0);
        Checks.same("none are counted behind clear", removed.removedCount(), 0);
    }

    private static void oneOfEach() {
        DimensionLoader x = new DimensionLoader();
        Checks.same("one inferred version", x.addFact(7, 999, LEAST), 0);
        Checks.same("versionCount", x.versionCount(), 1);
        Checks.same("inferredCount", x.inferredCount(), 1);
        Checks.same("firstInferred", x.firstInferred(), 0);
        Checks.same("factCount", x.factCount(), 1);
        Checks.same("number of facts", x.version(0, 4), 1);
        Checks.same("amountOf", x.amountOf(0), LEAST);
        Checks.same("amountFor", x.amountFor(7, 0), LEAST);
        Checks.raises("fact 1", IndexOutOfBoundsException.class, () -> x.fact(1, 0));
        Checks.raises("version 1", IndexOutOfBoundsException.class, () -> x.version(1, 0));
        Checks.same("row", x.stage(7, 999, 5), 1);
        Checks.same("save", x.save(), 1);
        Checks.same("loadRows", x.loadRows(1), 1);
        Checks.same("not inferred any more", x.inferredCount(), 0);
        Checks.raises("firstInferred", NoSuchElementException.class, x::firstInferred);
        Checks.same("restore", x.restore(), 1);
        Checks.same("inferred again", x.firstInferred(), 0);
        Checks.same("row again", x.staged(), 1);
        Checks.same("clear", x.clear(), 1);
    }

    /** "the inferred version with the least first day; of several, the one with the least key". */
    private static void firstInferred() {
        DimensionLoader x = new DimensionLoader();
        for (int key = 7; key >= 0; key--) {
            x.addFact(key, 999, 1);
            Checks.same("least key", x.firstInferred(), 7 - key);
        }
        x.addFact(7, 998, 1);
        Checks.same("day ahead of key", x.firstInferred(), 0);
        x.addFact(6, 998, 1);
        Checks.same("least key of that day", x.firstInferred(), 1);
        x.addFact(7, 0, 1);
        Checks.same("day 0", x.firstInferred(), 0);
        x.change(7, 0, 0);
        Checks.same("not inferred any more", x.firstInferred(), 1);
        x.change(5, 0, 0);
        Checks.same("one that is not inferred is left out", x.firstInferred(), 1);
        x.correct(1, 0);
        Checks.same("the rest", x.firstInferred(), 7);
    }
}
