import java.util.NoSuchElementException;

/** "Description" and "More precisely", sentence by sentence: each method begins with the one that it tests. */
final class PreciselyTest {
    public static void main(String[] args) {
        numbersInOrder();
        numbersNotUsedAgain();
        nextVersion();
        factsPointAnew();
        changeOnFirstDay();
        changeOfSameValue();
        splitOfInferred();
        changeAheadOfInferred();
        changeInGap();
        factAheadOfInferred();
        factInGap();
        gapsStay();
        closeAndFacts();
        correctOwnValue();
        removeWhatever();
        joinMore();
        joinNotInferred();
        joinFirstPair();
        amountForInferred();
        anewOfEachCall();
        anewKept();
        anewNull();
        anewOfAdded();
        rowsInOrder();
        rowsStay();
        clearLeaves();
        restoreNumbers();
        restoreWhole();
        savedReplaced();
        questionsOnly();
        Checks.end("PreciselyTest");
    }

    /** "Versions are numbered from 0 in the order in which they were made" - whatever their keys, days and ways. */
    private static void numbersInOrder() {
        DimensionLoader x = new DimensionLoader();
        Checks.same("by change", x.change(7, 900, 1), 0);
        Checks.same("by addFact", x.addFact(0, 900, 1), 1);
        Checks.same("by a split", x.change(7, 950, 2), 2);
        Checks.same("no new one", x.change(0, 900, 2), 1);
        x.stage(3, 5, 1);
        x.stage(3, 4, 1);
        x.loadRows(2);
        Checks.same("by the first row", x.validOn(3, 4), 3);
        Checks.same("by the second row", x.change(3, 5, 2), 4);
        Look.type(x, "k2@9=1,k2@8=1");
        x.read();
        Checks.same("by the first row of a text", x.validOn(2, 9), 5);
        Checks.same("by the second row of a text", x.validOn(2, 8), 6);
        Checks.raises("a refused call makes none", IllegalArgumentException.class, () -> x.change(1, -1, 0));
        Checks.same("by change again", x.change(1, 0, 0), 7);
    }

    /** "the numbers of versions that are removed are not used again" */
    private static void numbersNotUsedAgain() {
        DimensionLoader x = new DimensionLoader();
        x.change(0, 10, 1);
        x.change(0, 20, 2);
        x.change(0, 30, 1);
        x.remove(2);
        Checks.same("behind remove of the last one", x.change(0, 30, 1), 3);
        x.remove(1);
        Checks.same("join", x.join(0), 1);
        Checks.same("behind remove and join", x.change(1, 0, 0), 4);
        x.remove(0);
        x.remove(4);
        Checks.same("behind remove of all", x.change(0, 10, 1), 5);
        for (int gone : new int[] {0, 1, 2, 3, 4}) {
            Checks.raises("gone " + gone, IndexOutOfBoundsException.class, () -> x.version(gone, 0));
        }
        Checks.same("removedCount", x.removedCount(), 5);
        Checks.same("versionCount", x.versionCount(), 1);
    }

    /** "its version with the least first day that is greater than this day" */
    private static void nextVersion() {
        DimensionLoader x = new DimensionLoader();
        x.change(0, 50, 1);
        x.change(0, 40, 1);
        x.change(0, 60, 2);
        x.change(0, 30, 2);
        x.change(1, 31, 2);
        Checks.same("the day ahead", x.nextAfter(0, 29), 3);
        Checks.same("the day itself", x.nextAfter(0, 30), 1);
        Checks.same("the day behind", x.nextAfter(0, 31), 1);
        Checks.same("the last one", x.nextAfter(0, 59), 2);
        Checks.raises("behind the last one", NoSuchElementException.class, () -> x.nextAfter(0, 60));
        x.remove(1);
        Checks.same("a removed one is left out", x.nextAfter(0, 30), 0);
    }

    /** "When versions change, facts are pointed anew by that." */
    private static void factsPointAnew() {
        DimensionLoader x = new DimensionLoader();
        x.change(0, 10, 1);
        for (int day : new int[] {10, 19, 20, 999}) {
            x.addFact(0, day, day);
        }
        x.addFact(1, 20, 1);
        x.change(0, 20, 2);
        Checks.sameText("split", pointers(x), "0 0 2 2 anew 2");
        x.change(0, 999, 3);
        Checks.sameText("split on the last day", pointers(x), "0 0 2 3 anew 1");
        x.change(0, 11, 4);
        Checks.sameText("split of the first one", pointers(x), "0 4 2 3 anew 1");
        x.remove(3);
        Checks.sameText("remove", pointers(x), "0 4 2 2 anew 1");
        x.correct(4, 2);
        Checks.sameText("correct", pointers(x), "0 4 2 2 anew 1");
        x.join(0);
        Checks.sameText("join", pointers(x), "0 4 4 4 anew 2");
        Checks.same("the fact of another key", x.fact(4, 3), 1);
        Checks.same("facts of the joined one", x.version(4, 4), 3);
        Checks.same("sum of the joined one", x.amountOf(4), 19 + 20 + 999);
    }

    /** The versions of facts 0 to 3, and how many the last call pointed anew. */
    private static String pointers(DimensionLoader x) {
        StringBuilder text = new StringBuilder();
        for (int fact = 0; fact < 4; fact++) {
            text.append(x.fact(fact, 3)).append(' ');
        }
        return text.append("anew ").append(x.pointedAnew()).toString();
    }

    /** "If a version is valid on the day and begins on it, it gets the value, and is not inferred any more." */
    private static void changeOnFirstDay() {
        DimensionLoader x = new DimensionLoader();
        x.addFact(0, 10, 1);
        Checks.same("inferred, value that it has", x.change(0, 10, 0), 0);
        Checks.sameText("inferred, value that it has", Look.key(x, 0), "0:10-1000=0");
        x.addFact(1, 10, 1);
        Checks.same("inferred, another value", x.change(1, 10, 5), 1);
        Checks.sameText("inferred, another value", Look.key(x, 1), "1:10-1000=5");
        x.close(1, 12);
        Checks.same("closed one", x.change(1, 10, 6), 1);
        Checks.sameText("closed one", Look.key(x, 1), "1:10-12=6");
        x.change(0, 20, 5);
        Checks.same("the value of its neighbor", x.change(0, 20, 0), 2);
        Checks.sameText("neighbors are not joined by that", Look.key(x, 0), "0:10-20=0 2:20-1000=0");
    }

    /** "A change to the value that a version has already returns this version" */
    private static void changeOfSameValue() {
        DimensionLoader x = new DimensionLoader();
        x.change(0, 10, 5);
        x.change(0, 20, 6);
        Checks.same("the day behind the first", x.change(0, 11, 5), 0);
        Checks.same("the last day", x.change(0, 19, 5), 0);
        Checks.same("the first day of the next one", x.change(0, 20, 5), 1);
        Checks.same("the last of all days", x.change(0, 999, 5), 1);
        Checks.sameText("nothing happens", Look.key(x, 0), "0:10-20=5 1:20-1000=5");
        Checks.same("no number is used", x.change(1, 0, 0), 2);
    }

    /** "an inferred version that begins earlier is split also if it has the value already, and its first part stays inferred" */
    private static void splitOfInferred() {
        DimensionLoader x = new DimensionLoader();
        x.addFact(0, 10, 1);
        x.addFact(0, 20, 1);
        Checks.same("the value that it has", x.change(0, 11, 0), 1);
        Checks.sameText("the value that it has", Look.key(x, 0), "0:10-11=0? 1:11-1000=0");
        Checks.same("the fact behind", x.pointedAnew(), 1);
        Checks.same("the second part is not split", x.change(0, 12, 0), 1);
        Checks.same("inferredCount", x.inferredCount(), 1);
        x.addFact(1, 10, 1);
        Checks.same("another value on the last day", x.change(1, 999, 3), 3);
        Checks.sameText("another value on the last day", Look.key(x, 1), "2:10-999=0? 3:999-1000=3");
    }

    /** "If no version is valid on the day, and there is a next version after it and it is inferred, that one begins at the day" */
    private static void changeAheadOfInferred() {
        DimensionLoader x = new DimensionLoader();
        x.change(0, 10, 1);
        x.close(0, 20);
        x.addFact(0, 50, 1);
        x.change(0, 60, 2);
        Checks.same("in the gap", x.change(0, 30, 0), 1);
        Checks.sameText("in the gap", Look.key(x, 0), "0:10-20=1 1:30-60=0 2:60-1000=2");
        x.addFact(1, 50, 1);
        Checks.same("on day 0", x.change(1, 0, 9), 3);
        Checks.sameText("on day 0", Look.key(x, 1), "3:0-1000=9");
        x.addFact(2, 50, 1);
        x.change(2, 60, 4);
        x.change(2, 40, 3);
        Checks.sameText("the day ahead", Look.key(x, 2), "4:40-60=3 5:60-1000=4");
        x.addFact(2, 30, 1);
        Checks.same("the next one alone counts", x.change(2, 29, 0), 6);
        x.addFact(3, 50, 1);
        x.change(3, 60, 4);
        x.correct(7, 0);
        Checks.same("the next one is not inferred, a later one does not count", x.change(3, 49, 0), 9);
        Checks.sameText("the next one is not inferred", Look.key(x, 3), "9:49-50=0 7:50-60=0 8:60-1000=4");
    }

    /** "Otherwise a new version ... is valid from the day to the first day of the next version, or to 1000 if there is none." */
    private static void changeInGap() {
        DimensionLoader x = new DimensionLoader();
        x.change(0, 10, 1);
        x.close(0, 20);
        x.change(0, 50, 1);
        x.close(0, 60);
        Checks.same("on the first day of a gap", x.change(0, 20, 1), 2);
        Checks.sameText("up to the next one", Look.key(x, 0), "0:10-20=1 2:20-50=1 1:50-60=1");
        x.close(0, 30);
        Checks.same("on the last day of a gap", x.change(0, 49, 1), 3);
        Checks.sameText("a version of a day", Look.key(x, 0), "0:10-20=1 2:20-30=1 3:49-50=1 1:50-60=1");
        Checks.same("behind all", x.change(0, 61, 1), 4);
        Checks.sameText("to 1000", Look.at(x, 4), "0:61-1000=1");
        Checks.same("no value is looked at", x.versionsOf(0), 5);
        x.addFact(1, 500, 1);
        x.close(1, 501);
        Checks.same("behind an inferred one", x.change(1, 501, 0), 6);
        Checks.sameText("behind an inferred one", Look.key(x, 1), "5:500-501=0? 6:501-1000=0");
    }

    /** "as does an inferred version that begins earlier for a fact, with its value" */
    private static void factAheadOfInferred() {
        DimensionLoader x = new DimensionLoader();
        x.change(0, 10, 1);
        x.close(0, 20);
        x.addFact(0, 50, 1);
        x.change(0, 60, 2);
        Checks.same("in the gap", x.addFact(0, 21, 2), 1);
        Checks.sameText("in the gap", Look.key(x, 0), "0:10-20=1 1:21-60=0? 2:60-1000=2");
        Checks.same("no new one", x.removedCount() + x.versionCount(), 3);
        Checks.same("both facts", x.version(1, 4), 2);
        Checks.same("on the day that is left", x.addFact(0, 20, 3), 1);
        Checks.same("no gap is left", x.gaps(0), 0);
        Checks.same("on a valid one that is inferred", x.addFact(0, 40, 4), 1);
        Checks.sameText("it stays", Look.at(x, 1), "0:20-60=0?");
    }

    /** "a new version, which is inferred and has the value 0, is valid from the day to the first day of the next version, or to 1000" */
    private static void factInGap() {
        DimensionLoader x = new DimensionLoader();
        x.change(0, 10, 1);
        x.close(0, 20);
        x.change(0, 50, 1);
        x.close(0, 60);
        Checks.same("ahead of all", x.addFact(0, 9, 1), 2);
        Checks.same("in the gap", x.addFact(0, 49, 1), 3);
        Checks.same("behind all", x.addFact(0, 60, 1), 4);
        Checks.sameText("three of them", Look.key(x, 0), "2:9-10=0? 0:10-20=1 3:49-50=0? 1:50-60=1 4:60-1000=0?");
        Checks.same("pointedAnew", x.pointedAnew(), 0);
        Checks.same("a valid version is left alone", x.addFact(0, 15, 1), 0);
        Checks.same("not inferred by that", x.isInferred(0), false);
    }

    /** "Days of a gap that no call tells of stay a gap, also behind a version that was closed" */
    private static void gapsStay() {
        DimensionLoader x = new DimensionLoader();
        x.change(0, 10, 1);
        x.close(0, 20);
        Checks.sameText("behind the last one", gaps(x, 0), "20-999");
        x.change(0, 30, 1);
        Checks.sameText("change behind it", gaps(x, 0), "20-29");
        x.close(0, 40);
        x.addFact(0, 60, 1);
        Checks.sameText("addFact behind it", gaps(x, 0), "20-29 40-59");
        x.addFact(0, 50, 1);
        Checks.sameText("an inferred one begins earlier", gaps(x, 0), "20-29 40-49");
        x.change(0, 45, 1);
        Checks.sameText("an inferred one is completed", gaps(x, 0), "20-29 40-44");
        x.change(0, 25, 1);
        Checks.sameText("change in a gap", gaps(x, 0), "20-24 40-44");
        x.remove(1);
        Checks.sameText("remove gives days to the one before", gaps(x, 0), "20-24 40-44");
        x.remove(3);
        Checks.sameText("remove leaves a gap", gaps(x, 0), "20-44");
        Checks.same("days", x.gapDays(), 25);
        x.join(0);
        Checks.sameText("join leaves a gap", gaps(x, 0), "20-44");
    }

    private static String gaps(DimensionLoader x, int key) {
        StringBuilder text = new StringBuilder();
        for (int gap = 0; gap < x.gaps(key); gap++) {
            text.append(gap == 0 ? "" : " ").append(x.gapDay(key, gap, false)).append('-').append(x.gapDay(key, gap, true));
        }
        return text.toString();
    }

    /** "close looks at the facts that point to the version which it ends." */
    private static void closeAndFacts() {
        DimensionLoader x = new DimensionLoader();
        x.change(0, 10, 1);
        x.change(0, 20, 2);
        x.addFact(0, 20, 1);
        x.addFact(0, 999, 1);
        x.addFact(1, 15, 1);
        Checks.same("facts of the next version and of another key", x.close(0, 15), 20);
        Checks.same("they stay", x.version(1, 4), 2);
        Checks.same("none is pointed anew", x.pointedAnew(), 0);
        x.remove(0);
        x.addFact(0, 14, 1);
        Checks.raises("on the day", IllegalStateException.class, () -> x.close(0, 14));
        Checks.same("behind it", x.close(0, 15), 20);
    }

    /** "correct makes a version not inferred also with its own value." */
    private static void correctOwnValue() {
        DimensionLoader x = new DimensionLoader();
        x.addFact(0, 10, 1);
        Checks.same("previous value", x.correct(0, 0), 0);
        Checks.sameText("its own value", Look.key(x, 0), "0:10-1000=0");
        Checks.same("inferredCount", x.inferredCount(), 0);
        Checks.same("a change of its value is none then", x.change(0, 11, 0), 0);
        Checks.same("a fact ahead makes a new one then", x.addFact(0, 9, 1), 1);
        Checks.same("value of its neighbor", x.correct(1, 0), 0);
        Checks.sameText("no join by that", Look.key(x, 0), "1:9-10=0 0:10-1000=0");
        Checks.same("facts stay", x.fact(0, 3), 0);
    }

    /** "remove gives the days of the removed version to the one before whatever their values are and whether it is inferred" */
    private static void removeWhatever() {
        DimensionLoader x = new DimensionLoader();
        x.addFact(0, 10, 1);
        x.change(0, 20, 5);
        x.change(0, 30, 6);
        x.addFact(0, 25, 1);
        x.addFact(0, 29, 1);
        Checks.same("facts are counted ahead of that", x.remove(1), 2);
        Checks.sameText("an inferred one before", Look.key(x, 0), "0:10-30=0? 2:30-1000=6");
        Checks.same("its facts", x.version(0, 4), 3);
        Checks.same("pointedAnew", x.pointedAnew(), 2);
        x.addFact(1, 10, 1);
        x.change(1, 5, 7);
        x.change(1, 20, 8);
        x.change(1, 30, 7);
        Checks.same("no facts", x.remove(4), 0);
        Checks.sameText("other values", Look.key(x, 1), "3:5-30=7 5:30-1000=7");
        Checks.same("alike ones are not joined by that", x.versionsOf(1), 2);
        x.change(2, 10, 1);
        x.close(2, 20);
        x.addFact(2, 20, 1);
        x.close(2, 21);
        Checks.same("an inferred one is removed", x.remove(7), 1);
        Checks.sameText("up to the end of the removed one", Look.key(x, 2), "6:10-21=1");
        Checks.same("the one before is not inferred by that", x.isInferred(6), false);
    }

    /** "join makes three or more alike that follow one another one version" */
    private static void joinMore() {
        DimensionLoader x = new DimensionLoader();
        int[] values = {1, 2, 1, 2, 1, 2, 1};
        for (int i = 0; i < values.length; i++) {
            x.change(0, 10 * i, values[i]);
        }
        Checks.same("none alike", x.join(0), 0);
        x.correct(1, 1);
        Checks.same("three", x.join(0), 2);
        Checks.sameText("three", Look.key(x, 0), "0:0-30=1 3:30-40=2 4:40-50=1 5:50-60=2 6:60-1000=1");
        x.correct(3, 1);
        x.correct(5, 1);
        Checks.same("five", x.join(0), 4);
        Checks.sameText("five", Look.key(x, 0), "0:0-1000=1");
        Checks.same("joined ones count as removed", x.removedCount(), 6);
        Checks.same("none any more", x.join(0), 0);
        for (int i = 0; i < 4; i++) {
            x.change(1, 10 * i, i);
        }
        x.correct(8, 0);
        x.correct(10, 2);
        Checks.same("two pairs", x.join(1), 2);
        Checks.sameText("two pairs", Look.key(x, 1), "7:0-20=0 9:20-1000=2");
    }

    /** "inferred ones are not joined" */
    private static void joinNotInferred() {
        DimensionLoader x = new DimensionLoader();
        x.addFact(0, 10, 1);
        x.change(0, 20, 0);
        Checks.same("the first one is inferred", x.join(0), 0);
        x.change(1, 10, 0);
        x.close(1, 20);
        x.addFact(1, 20, 1);
        Checks.same("the second one is inferred", x.join(1), 0);
        x.change(2, 10, 0);
        x.close(2, 20);
        x.addFact(2, 20, 1);
        x.close(2, 30);
        x.change(2, 30, 0);
        Checks.same("the middle one is inferred", x.join(2), 0);
        x.correct(5, 0);
        Checks.same("not any more", x.join(2), 2);
        x.addFact(3, 10, 1);
        x.close(3, 20);
        x.addFact(3, 20, 1);
        Checks.same("both are inferred", x.join(3), 0);
        Checks.same("both stay", x.versionsOf(3), 2);
        x.change(4, 10, 0);
        x.close(4, 19);
        x.change(4, 20, 0);
        Checks.same("a gap of one day", x.join(4), 0);
        Checks.same("a gap of one day stays", x.gaps(4), 1);
    }

    /** "the first such pair is joined; the first one becomes valid to the end of the second one" */
    private static void joinFirstPair() {
        DimensionLoader x = new DimensionLoader();
        x.change(0, 30, 5);
        x.change(0, 20, 5);
        x.change(0, 10, 5);
        x.close(0, 40);
        x.change(1, 0, 5);
        Checks.same("by days, not by numbers", x.join(0), 2);
        Checks.sameText("the first one stays", Look.key(x, 0), "2:10-40=5");
        Checks.sameText("another key stays", Look.key(x, 1), "3:0-1000=5");
        x.change(2, 10, 5);
        x.change(2, 5, 5);
        Checks.same("no pair of this key", x.join(1), 0);
        Checks.same("pairs of another key stay", x.versionsOf(2), 2);
        Checks.same("the pair of the key", x.join(2), 1);
    }

    /** "amountFor counts inferred versions, too." */
    private static void amountForInferred() {
        DimensionLoader x = new DimensionLoader();
        x.addFact(0, 10, 5);
        x.change(0, 20, 0);
        x.addFact(0, 20, 7);
        x.addFact(1, 20, 100);
        x.change(0, 30, 1);
        x.addFact(0, 30, 1000);
        Checks.same("inferred and not", x.amountFor(0, 0), 12);
        Checks.same("another value", x.amountFor(0, 1), 1000);
        x.correct(2 + 1, 0);
        Checks.same("corrected", x.amountFor(0, 0), 1012);
        Checks.same("none any more", x.amountFor(0, 1), 0);
    }

    /** "the number of facts that point to another version now than directly before the latest call of change, ..." */
    private static void anewOfEachCall() {
        DimensionLoader x = new DimensionLoader();
        Checks.same("0 before the first such call", x.pointedAnew(), 0);
        x.addFact(0, 0, 1);
        x.addFact(0, 500, 1);
        x.addFact(0, 999, 1);
        x.change(0, 500, 1);
        Checks.same("change that splits", x.pointedAnew(), 2);
        x.change(0, 500, 2);
        Checks.same("change on a first day", x.pointedAnew(), 0);
        x.change(0, 999, 1);
        Checks.same("change on the last day", x.pointedAnew(), 1);
        x.change(1, 5, 5);
        Checks.same("change of another key", x.pointedAnew(), 0);
        x.remove(2);
        Checks.same("remove", x.pointedAnew(), 1);
        x.remove(3);
        Checks.same("remove of another key", x.pointedAnew(), 0);
        x.stage(0, 1, 1);
        x.stage(0, 600, 1);
        x.loadRows(1);
        Checks.same("loadRows of the first row", x.pointedAnew(), 0);
        x.loadRows(1);
        Checks.same("loadRows of the second row", x.pointedAnew(), 1);
        x.loadRows(1);
        Checks.same("loadRows without rows", x.pointedAnew(), 0);
        Look.type(x, "k0@400=7,k0@450=8,k0@990=9");
        x.read();
        Checks.same("read", x.pointedAnew(), 1);
        Look.type(x, "k0@400=7");
        x.read();
        Checks.same("read that changes nothing", x.pointedAnew(), 0);
    }

    /** "pointedAnew is kept when a call throws an exception or only asks, stages or appends" */
    private static void anewKept() {
        Checks.same("ahead", Look.rich().pointedAnew(), 1);
        DimensionLoader x = Look.rich();
        Checks.raises("addFact throws", IllegalArgumentException.class, () -> x.addFact(0, 1000, 1));
        Checks.same("kept by addFact", x.pointedAnew(), 1);
        Checks.raises("join throws", IndexOutOfBoundsException.class, () -> x.join(8));
        Checks.same("kept by join", x.pointedAnew(), 1);
        Checks.raises("loadRows throws", IllegalArgumentException.class, () -> x.loadRows(21));
        Checks.same("kept by loadRows", x.pointedAnew(), 1);
        Checks.same("stage", x.stage(1, 1, 1), 3);
        Checks.same("kept by stage", x.pointedAnew(), 1);
        Checks.same("append", x.append(';'), 7);
        Checks.same("kept by append", x.pointedAnew(), 1);
        Checks.raises("read throws", IllegalArgumentException.class, x::read);
        Checks.same("kept by read", x.pointedAnew(), 1);
        Checks.same("correct is not one of the calls that count", x.correct(0, 4), 3);
        Checks.same("kept by correct", x.pointedAnew(), 1);
        Checks.same("save is not one of the calls that count", x.save(), 5);
        Checks.same("kept by save", x.pointedAnew(), 1);
        DimensionLoader full = Look.full();
        full.addFact(0, 599, 1);
        full.remove(59);
        Look.type(full, "k0@0=5,k1@0=1");
        full.stage(0, 0, 5);
        full.stage(1, 0, 5);
        Checks.raises("read of a full object", IllegalStateException.class, full::read);
        Checks.raises("loadRows of a full object", IllegalStateException.class, () -> full.loadRows(2));
        Checks.raises("restore of nothing", IllegalStateException.class, full::restore);
        Checks.same("kept by all of them", full.pointedAnew(), 1);
    }

    /** "it is 0 behind clear, close and restore" */
    private static void anewNull() {
        DimensionLoader x = Look.rich();
        Checks.same("close", x.close(0, 600), 1000);
        Checks.same("0 behind close", x.pointedAnew(), 0);
        x = Look.rich();
        x.clear();
        Checks.same("0 behind clear", x.pointedAnew(), 0);
        x = Look.rich();
        x.save();
        Checks.same("restore", x.restore(), 5);
        Checks.same("0 behind restore of the same", x.pointedAnew(), 0);
        x = Look.rich();
        x.restore();
        Checks.same("0 behind restore of something else", x.pointedAnew(), 0);
        x = Look.rich();
        Checks.same("join", x.join(7), 0);
        Checks.same("0 behind join of nothing", x.pointedAnew(), 0);
    }

    /** "facts that were added by it do not count" */
    private static void anewOfAdded() {
        DimensionLoader x = Look.rich();
        Checks.same("a fact on a new version", x.addFact(7, 5, 1), 6);
        Checks.same("a fact on a new version", x.pointedAnew(), 0);
        x = Look.rich();
        Checks.same("a fact on a version that there was", x.addFact(0, 31, 1), 5);
        Checks.same("a fact on a version that there was", x.pointedAnew(), 0);
        x = Look.rich();
        Checks.same("a fact on a version that begins earlier", x.addFact(1, 0, 1), 4);
        Checks.same("a fact on a version that begins earlier", x.pointedAnew(), 0);
    }

    /** "Rows of one key and one day are loaded in the order in which they were staged" */
    private static void rowsInOrder() {
        DimensionLoader x = new DimensionLoader();
        for (int i = 0; i < 20; i++) {
            x.stage(i % 2, i / 10, 20 - i);
        }
        int[] due = {20, 18, 16, 14, 12, 19, 17, 15, 13, 11, 10, 8, 6, 4, 2, 9, 7, 5, 3, 1};
        for (int i = 0; i < due.length; i++) {
            Checks.same("value of row " + i, x.nextRow(2), due[i]);
            Checks.same("key of row " + i, x.nextRow(0), i / 5 % 2);
            Checks.same("day of row " + i, x.nextRow(1), i / 10);
            x.loadRows(1);
        }
        Checks.sameText("the last one of each", Look.key(x, 0) + " " + Look.key(x, 1), "0:0-1=12 2:1-1000=2 1:0-1=11 3:1-1000=1");
        x.stage(2, 5, 1);
        x.stage(2, 5, 2);
        x.loadRows(1);
        x.stage(2, 5, 3);
        Checks.same("one that is staged later comes later", x.nextRow(2), 2);
        Checks.same("both", x.loadRows(20), 2);
        Checks.same("the last one wins", x.version(x.validOn(2, 5), 3), 3);
    }

    /** "if loadRows throws an exception, all of them stay staged" */
    private static void rowsStay() {
        DimensionLoader x = Look.filled(59);
        x.stage(3, 2, 30);
        x.stage(2, 2, 20);
        x.stage(0, 0, 10);
        Checks.raises("the third one", IllegalStateException.class, () -> x.loadRows(3));
        Checks.same("all stay", x.staged(), 3);
        Checks.same("the first one comes first", x.nextRow(2), 10);
        Checks.same("no version is made", x.versionCount(), 59);
        Checks.same("no value is given", x.version(0, 3), 0);
        Checks.same("two of them", x.loadRows(2), 2);
        Checks.sameText("two of them", Look.at(x, 0) + " " + Look.at(x, 59), "0:0-10=10 2:2-1000=20");
        Checks.raises("the last one", IllegalStateException.class, () -> x.loadRows(20));
        Checks.same("it stays", x.nextRow(2), 30);
    }

    /** "clear leaves the input, the error position and what was saved." */
    private static void clearLeaves() {
        DimensionLoader x = Look.rich();
        x.clear();
        Checks.same("the error position", x.errorPosition(), 2);
        Checks.same("the input", x.read(), 1);
        Checks.sameText("the input", Look.key(x, 7), "0:5-1000=5");
        Checks.same("what was saved", x.restore(), 1);
        Checks.sameText("what was saved", Look.key(x, 3) + Look.key(x, 7), "0:100-1000=11");
        Checks.same("the fact that was saved", x.fact(0, 2), 12);
        Checks.same("the row that was saved", x.nextRow(1), 5);
        x.clear();
        x.clear();
        Checks.same("what was saved, again", x.restore(), 1);
    }

    /** "restore makes the versions that have been made and removed, and so their numbers, what they were when it was saved" */
    private static void restoreNumbers() {
        DimensionLoader x = new DimensionLoader();
        x.change(0, 10, 1);
        x.change(0, 20, 2);
        x.change(0, 30, 3);
        x.remove(1);
        x.save();
        x.remove(0);
        x.change(0, 5, 4);
        x.change(1, 5, 4);
        Checks.same("ahead", x.removedCount() * 10 + x.versionCount(), 23);
        Checks.same("restore", x.restore(), 2);
        Checks.same("behind", x.removedCount() * 10 + x.versionCount(), 12);
        Checks.sameText("versions", Look.key(x, 0) + Look.key(x, 1), "0:10-30=1 2:30-1000=3");
        Checks.raises("removed again", IndexOutOfBoundsException.class, () -> x.version(1, 0));
        Checks.raises("not made again", IndexOutOfBoundsException.class, () -> x.version(3, 0));
        Checks.same("a number can be used again", x.change(5, 5, 5), 3);
        Checks.sameText("it is another version", Look.at(x, 3), "5:5-1000=5");
        x.clear();
        Checks.same("none behind clear", x.removedCount(), 0);
        x.change(6, 6, 6);
        x.restore();
        Checks.same("removedCount behind clear and restore", x.removedCount(), 1);
        Checks.same("the next number behind clear and restore", x.change(5, 5, 5), 3);
    }

    /** "Restores what was saved. It stays saved." */
    private static void restoreWhole() {
        DimensionLoader x = Look.rich();
        x.save();
        String all = Look.all(x);
        Look.Maker restored = () -> {
            DimensionLoader y = Look.rich();
            y.save();
            for (int round = 0; round < 2; round++) {
                y.change(0, 12, 77);
                y.remove(2);
                y.correct(4, 5);
                y.close(1, 41);
                y.addFact(6, 6, 6);
                y.loadRows(1);
                y.restore();
            }
            return y;
        };
        Checks.sameText("all but pointedAnew", Look.all(restored.make()), all.replace(" anew 1", " anew 0"));
    }

    /** "What was saved before is replaced." */
    private static void savedReplaced() {
        DimensionLoader x = Look.rich();
        x.save();
        x.clear();
        Checks.same("save of nothing", x.save(), 0);
        x.change(0, 0, 1);
        x.addFact(0, 0, 1);
        x.stage(0, 0, 1);
        Checks.same("nothing is restored", x.restore(), 0);
        Checks.same("no facts", x.factCount(), 0);
        Checks.same("no rows", x.staged(), 0);
        Checks.same("numbers begin at 0", x.change(0, 0, 1), 0);
        DimensionLoader y = Look.rich();
        Checks.same("a throw leaves what was saved", y.save(), 5);
        Checks.raises("a throw", IllegalStateException.class, () -> y.close(0, 10));
        Checks.same("a throw leaves what was saved", y.restore(), 5);
    }

    /** "Methods whose documentation does not mention a change only answer a question." */
    private static void questionsOnly() {
        Look.Use[] questions = {
            DimensionLoader::versionCount, x -> x.versionsOf(0), x -> x.versionAt(0, 3), x -> x.validOn(0, 10),
            x -> x.nextAfter(0, 0), x -> x.version(0, 4), x -> x.isInferred(4), DimensionLoader::firstInferred,
            DimensionLoader::inferredCount, DimensionLoader::removedCount, DimensionLoader::factCount,
            x -> x.fact(2, 4), x -> x.amountOf(5), x -> x.amountFor(0, 9), DimensionLoader::pointedAnew, x -> x.gaps(0),
            x -> x.gapDay(0, 0, true), x -> x.gapDay(0, 0, false), DimensionLoader::gapDays, x -> x.coverage(0),
            x -> x.isCovered(0, 10, 39), x -> x.isCovered(0, 10, 50), DimensionLoader::staged, x -> x.nextRow(0),
            x -> x.nextRow(1), x -> x.nextRow(2), DimensionLoader::errorPosition};
        String due = Look.all(Look.rich());
        DimensionLoader asked = Look.rich();
        for (int i = 0; i < questions.length; i++) {
            DimensionLoader x = Look.rich();
            questions[i].on(x);
            Checks.sameText("behind question " + i, Look.all(x), due);
            questions[i].on(asked);
            questions[i].on(asked);
        }
        Checks.sameText("behind all questions", Look.all(asked), due);
        Checks.same("save changes nothing but what is saved", Look.rich().save(), 5);
        DimensionLoader saved = Look.rich();
        saved.save();
        String part = due.substring(0, due.indexOf(" saved "));
        Checks.sameText("save changes nothing but what is saved", Look.all(saved).substring(0, part.length()), part);
    }
}
