import java.util.NoSuchElementException;

/** Promises 1 to 8: a new object, and what changes versions and facts. */
final class ChangesTest {
    private static final int LEAST = Integer.MIN_VALUE;
    private static final int MOST = Integer.MAX_VALUE;

    public static void main(String[] args) {
        newObject();
        changeInGap();
        changeOfValid();
        changeOfInferred();
        changeBesideOtherKeys();
        changeWrong();
        changeFull();
        addFactOnVersion();
        addFactInGap();
        addFactWrong();
        addFactFull();
        close();
        closeWrong();
        correct();
        remove();
        removeWithFacts();
        join();
        clear();
        clearLeaves();
        Checks.end("ChangesTest");
    }

    private static void newObject() {
        DimensionLoader x = new DimensionLoader();
        Checks.same("1 versionCount", x.versionCount(), 0);
        Checks.same("1 removedCount", x.removedCount(), 0);
        Checks.same("1 factCount", x.factCount(), 0);
        Checks.same("1 staged", x.staged(), 0);
        Checks.same("1 pointedAnew", x.pointedAnew(), 0);
        Checks.same("1 append", x.append('k'), 1);
        Checks.raises("1 errorPosition", NoSuchElementException.class, x::errorPosition);
        Checks.raises("1 restore", IllegalStateException.class, x::restore);
        Checks.same("1 another object", new DimensionLoader().append('k'), 1);
    }

    private static void changeInGap() {
        DimensionLoader x = new DimensionLoader();
        Checks.same("2 first", x.change(7, 500, -3), 0);
        Checks.sameText("2 first", Look.at(x, 0), "7:500-1000=-3");
        Checks.same("2 ahead of a version", x.change(7, 0, -3), 1);
        Checks.sameText("2 ahead of a version", Look.at(x, 1), "7:0-500=-3");
        x.close(7, 900);
        Checks.same("2 behind a closed one", x.change(7, 999, 4), 2);
        Checks.sameText("2 behind a closed one", Look.at(x, 2), "7:999-1000=4");
        Checks.same("2 at the day of the end", x.change(7, 900, -3), 3);
        Checks.sameText("2 at the day of the end", Look.at(x, 3), "7:900-999=-3");
        Checks.sameText("2 others stay", Look.at(x, 0), "7:500-900=-3");
    }

    private static void changeOfValid() {
        DimensionLoader x = new DimensionLoader();
        x.change(2, 10, 3);
        Checks.same("2 on its first day", x.change(2, 10, 5), 0);
        Checks.sameText("2 on its first day", Look.at(x, 0), "2:10-1000=5");
        Checks.same("2 same value later", x.change(2, 11, 5), 0);
        Checks.same("2 same value on the first day", x.change(2, 10, 5), 0);
        Checks.same("2 no version is made", x.versionCount(), 1);
        Checks.same("2 split", x.change(2, 999, 6), 1);
        Checks.sameText("2 split", Look.at(x, 0) + " " + Look.at(x, 1), "2:10-999=5 2:999-1000=6");
        x.close(2, 500);
        Checks.same("2 split of a closed one", x.change(2, 499, 7), 2);
        Checks.sameText("2 split of a closed one", Look.at(x, 0) + " " + Look.at(x, 2), "2:10-499=5 2:499-500=7");
    }

    private static void changeOfInferred() {
        DimensionLoader x = new DimensionLoader();
        x.addFact(0, 100, 1);
        Checks.same("2 inferred, same value, split", x.change(0, 200, 0), 1);
        Checks.sameText("2 first part stays inferred", Look.at(x, 0) + " " + Look.at(x, 1), "0:100-200=0? 0:200-1000=0");
        Checks.same("2 inferred begins on the day", x.change(0, 100, 0), 0);
        Checks.sameText("2 not inferred any more", Look.at(x, 0), "0:100-200=0");
        x.addFact(0, 50, 1);
        Checks.same("2 inferred next version", x.change(0, 20, 9), 2);
        Checks.sameText("2 begins at the day", Look.at(x, 2), "0:20-100=9");
        x.addFact(1, 50, 1);
        x.addFact(1, 60, 1);
        Checks.same("2 inferred valid version is split", x.change(1, 60, 4), 4);
        Checks.sameText("2 inferred valid version is split", Look.at(x, 3) + " " + Look.at(x, 4), "1:50-60=0? 1:60-1000=4");
        Checks.same("2 pointedAnew", x.pointedAnew(), 1);
    }

    private static void changeBesideOtherKeys() {
        DimensionLoader x = new DimensionLoader();
        x.addFact(3, 100, 1);
        Checks.same("2 next version of another key", x.change(4, 50, 1), 1);
        Checks.sameText("2 next version of another key", Look.at(x, 0) + " " + Look.at(x, 1), "3:100-1000=0? 4:50-1000=1");
        Checks.same("2 valid version of another key", x.change(5, 200, 1), 2);
        Checks.sameText("2 valid version of another key", Look.at(x, 2), "5:200-1000=1");
    }

    private static void changeWrong() {
        DimensionLoader x = new DimensionLoader();
        for (int key : new int[] {LEAST, -1, 8, MOST}) {
            Checks.raises("2 key " + key, IndexOutOfBoundsException.class, () -> x.change(key, -1, 0));
        }
        for (int day : new int[] {LEAST, -1, 1000, MOST}) {
            Checks.raises("2 day " + day, IllegalArgumentException.class, () -> x.change(0, day, 0));
        }
        Checks.same("2 nothing is made", x.versionCount(), 0);
        Checks.same("2 least value", x.change(0, 0, LEAST), 0);
        Checks.same("2 least value", x.version(0, 3), LEAST);
    }

    private static void changeFull() {
        DimensionLoader x = Look.full();
        Checks.raises("2 full, split", IllegalStateException.class, () -> x.change(0, 15, 99));
        Checks.sameText("2 full, nothing is changed", Look.at(x, 1), "0:10-20=1");
        Checks.raises("2 full, gap", IllegalStateException.class, () -> x.change(1, 0, 0));
        Checks.raises("2 full, day first", IllegalArgumentException.class, () -> x.change(1, 1000, 0));
        Checks.same("2 full, same value", x.change(0, 15, 1), 1);
        Checks.same("2 full, first day", x.change(0, 10, 99), 1);
        x.remove(59);
        Checks.raises("2 full, removed ones count", IllegalStateException.class, () -> x.change(1, 0, 0));
        DimensionLoader y = new DimensionLoader();
        y.addFact(1, 900, 1);
        for (int i = 0; i < 59; i++) {
            y.change(0, 10 * i, i);
        }
        Checks.same("2 full, inferred next one", y.change(1, 5, 7), 0);
        Checks.sameText("2 full, inferred next one", Look.at(y, 0), "1:5-1000=7");
    }

    private static void addFactOnVersion() {
        DimensionLoader x = new DimensionLoader();
        x.change(0, 10, 3);
        x.change(0, 20, 4);
        Checks.same("3 first day", x.addFact(0, 10, 1), 0);
        Checks.same("3 last day", x.addFact(0, 19, 1), 0);
        Checks.same("3 next version", x.addFact(0, 20, 1), 1);
        Checks.same("3 end of days", x.addFact(0, 999, 1), 1);
        Checks.same("3 no version is made", x.versionCount(), 2);
        Checks.same("3 versions stay", x.inferredCount(), 0);
    }

    private static void addFactInGap() {
        DimensionLoader x = new DimensionLoader();
        Checks.same("3 no version", x.addFact(6, 500, 1), 0);
        Checks.sameText("3 no version", Look.at(x, 0), "6:500-1000=0?");
        Checks.same("3 inferred next one", x.addFact(6, 400, 1), 0);
        Checks.sameText("3 inferred next one", Look.at(x, 0), "6:400-1000=0?");
        x.change(6, 400, 8);
        Checks.same("3 next one not inferred", x.addFact(6, 300, 1), 1);
        Checks.sameText("3 next one not inferred", Look.at(x, 1), "6:300-400=0?");
        x.close(6, 600);
        Checks.same("3 behind the last one", x.addFact(6, 700, 1), 2);
        Checks.sameText("3 behind the last one", Look.at(x, 2), "6:700-1000=0?");
        Checks.same("3 in the gap ahead of an inferred one", x.addFact(6, 600, 1), 2);
        Checks.sameText("3 up to the closed one", Look.at(x, 2), "6:600-1000=0?");
        Checks.same("3 pointedAnew", x.pointedAnew(), 0);
        Checks.same("3 a key of its own", x.addFact(5, 0, 1), 3);
    }

    private static void addFactWrong() {
        DimensionLoader x = new DimensionLoader();
        for (int key : new int[] {LEAST, -1, 8, MOST}) {
            Checks.raises("3 key " + key, IndexOutOfBoundsException.class, () -> x.addFact(key, 1000, 0));
        }
        for (int day : new int[] {LEAST, -1, 1000, MOST}) {
            Checks.raises("3 day " + day, IllegalArgumentException.class, () -> x.addFact(0, day, 0));
        }
        Checks.same("3 nothing is added", x.factCount() + x.versionCount(), 0);
    }

    private static void addFactFull() {
        DimensionLoader x = Look.full();
        Checks.raises("3 versions full", IllegalStateException.class, () -> x.addFact(1, 0, 0));
        Checks.same("3 versions full, no fact", x.factCount(), 0);
        for (int i = 0; i < 60; i++) {
            x.addFact(0, 999 - i, i);
        }
        Checks.same("3 sixty facts", x.factCount(), 60);
        Checks.raises("3 facts full", IllegalStateException.class, () -> x.addFact(0, 0, 0));
        Checks.raises("3 facts full, key first", IndexOutOfBoundsException.class, () -> x.addFact(8, 0, 0));
        Checks.raises("3 facts full, day first", IllegalArgumentException.class, () -> x.addFact(0, 1000, 0));
        DimensionLoader y = new DimensionLoader();
        for (int i = 0; i < 60; i++) {
            y.addFact(0, 500, i);
        }
        Checks.raises("3 facts full, no version is made", IllegalStateException.class, () -> y.addFact(1, 0, 0));
        Checks.raises("3 facts full, none begins earlier", IllegalStateException.class, () -> y.addFact(0, 0, 0));
        Checks.sameText("3 facts full, all stays", y.versionCount() + " " + Look.at(y, 0), "1 0:500-1000=0?");
    }

    private static void close() {
        DimensionLoader x = new DimensionLoader();
        x.change(0, 10, 3);
        x.change(0, 20, 4);
        x.addFact(0, 29, 1);
        x.addFact(0, 15, 1);
        x.addFact(1, 35, 1);
        Checks.same("4 behind the last fact", x.close(0, 30), 1000);
        Checks.sameText("4 ends at the day", Look.at(x, 1), "0:20-30=4");
        Checks.same("4 of two versions", x.close(0, 16), 20);
        Checks.sameText("4 the other one stays", Look.at(x, 0) + " " + Look.at(x, 1), "0:10-16=3 0:20-30=4");
        Checks.raises("4 not valid any more", NoSuchElementException.class, () -> x.close(0, 16));
        Checks.raises("4 not valid later", NoSuchElementException.class, () -> x.close(0, 30));
        Checks.same("4 stays inferred", x.close(1, 36), 1000);
        Checks.sameText("4 stays inferred", Look.at(x, 2), "1:35-36=0?");
    }

    private static void closeWrong() {
        DimensionLoader x = new DimensionLoader();
        x.change(0, 10, 3);
        x.change(0, 20, 4);
        x.addFact(0, 15, 1);
        x.addFact(0, 25, 1);
        for (int key : new int[] {LEAST, -1, 8, MOST}) {
            Checks.raises("4 key " + key, IndexOutOfBoundsException.class, () -> x.close(key, 1000));
        }
        for (int day : new int[] {LEAST, -1, 1000, MOST}) {
            Checks.raises("4 day " + day, IllegalArgumentException.class, () -> x.close(0, day));
        }
        Checks.raises("4 ahead of all", NoSuchElementException.class, () -> x.close(0, 9));
        Checks.raises("4 no version", NoSuchElementException.class, () -> x.close(1, 0));
        Checks.raises("4 begins on the day", IllegalStateException.class, () -> x.close(0, 10));
        Checks.raises("4 fact on the day", IllegalStateException.class, () -> x.close(0, 15));
        Checks.raises("4 fact later", IllegalStateException.class, () -> x.close(0, 11));
        Checks.same("4 facts of the next one do not matter", x.close(0, 16), 20);
        Checks.sameText("4 the rest stays", Look.at(x, 1), "0:20-1000=4");
    }

    private static void correct() {
        DimensionLoader x = new DimensionLoader();
        x.change(0, 10, 3);
        x.addFact(1, 5, 2);
        Checks.same("5 previous value", x.correct(0, -8), 3);
        Checks.same("5 new value", x.version(0, 3), -8);
        Checks.same("5 inferred one, own value", x.correct(1, 0), 0);
        Checks.same("5 not inferred any more", x.isInferred(1), false);
        x.remove(0);
        for (int version : new int[] {LEAST, -1, 0, 2, 60, MOST}) {
            Checks.raises("5 version " + version, IndexOutOfBoundsException.class, () -> x.correct(version, 1));
        }
    }

    private static void remove() {
        DimensionLoader x = new DimensionLoader();
        x.change(0, 10, 3);
        x.change(0, 20, 4);
        x.change(0, 30, 5);
        x.change(1, 0, 6);
        x.close(1, 20);
        Checks.same("6 a middle one", x.remove(1), 0);
        Checks.sameText("6 the one before gets the days", Look.at(x, 0), "0:10-30=3");
        Checks.sameText("6 a neighbor of another key does not", Look.at(x, 3), "1:0-20=6");
        Checks.raises("6 removed already", IndexOutOfBoundsException.class, () -> x.remove(1));
        Checks.same("6 the first one", x.remove(0), 0);
        Checks.same("6 the key begins later", x.versionAt(0, 0), 2);
        x.change(0, 10, 3);
        x.close(0, 15);
        Checks.same("6 behind a gap", x.remove(2), 0);
        Checks.sameText("6 a gap remains", Look.at(x, 4) + " " + x.gapDay(0, 0, true), "0:10-15=3 999");
        Checks.same("6 numbers are not used again", x.change(2, 0, 1), 5);
        for (int version : new int[] {LEAST, -1, 6, 60, MOST}) {
            Checks.raises("6 version " + version, IndexOutOfBoundsException.class, () -> x.remove(version));
        }
    }

    private static void removeWithFacts() {
        DimensionLoader x = new DimensionLoader();
        x.addFact(0, 10, 1);
        x.change(0, 20, 4);
        x.addFact(0, 25, 1);
        x.addFact(0, 26, 1);
        Checks.raises("6 fact, none before", IllegalStateException.class, () -> x.remove(0));
        Checks.same("6 facts, inferred one before", x.remove(1), 2);
        Checks.sameText("6 facts, inferred one before", Look.at(x, 0), "0:10-1000=0?");
        Checks.same("6 facts are pointed anew", x.fact(1, 3), 0);
        Checks.same("6 pointedAnew", x.pointedAnew(), 2);
        x.change(0, 50, 2);
        x.close(0, 60);
        x.addFact(0, 70, 1);
        Checks.raises("6 fact, one before behind a gap", IllegalStateException.class, () -> x.remove(3));
        Checks.same("6 pointedAnew is kept", x.pointedAnew(), 0);
        Checks.same("6 nothing is removed", x.versionsOf(0), 3);
    }

    private static void join() {
        DimensionLoader x = new DimensionLoader();
        int[] values = {4, 5, 6, 7};
        for (int i = 0; i < values.length; i++) {
            x.change(0, 10 * i, values[i]);
        }
        x.addFact(0, 15, 1);
        x.addFact(0, 25, 1);
        Checks.same("7 none alike", x.join(0), 0);
        x.correct(1, 4);
        x.correct(2, 4);
        Checks.same("7 three alike", x.join(0), 2);
        Checks.sameText("7 three alike", Look.at(x, 0) + " " + Look.at(x, 3), "0:0-30=4 0:30-1000=7");
        Checks.same("7 facts are pointed anew", x.fact(1, 3), 0);
        Checks.same("7 pointedAnew", x.pointedAnew(), 2);
        Checks.same("7 joined ones count as removed", x.removedCount(), 2);
        Checks.raises("7 the second one is removed", IndexOutOfBoundsException.class, () -> x.version(1, 0));
        x.close(0, 40);
        x.change(0, 50, 7);
        Checks.same("7 not over a gap", x.join(0), 0);
        x.addFact(1, 0, 1);
        x.change(1, 20, 0);
        Checks.same("7 not an inferred first one", x.join(1), 0);
        x.change(2, 0, 0);
        x.close(2, 10);
        x.addFact(2, 10, 1);
        Checks.same("7 not an inferred second one", x.join(2), 0);
        Checks.same("7 no version", x.join(3), 0);
        for (int key : new int[] {LEAST, -1, 8, MOST}) {
            Checks.raises("7 key " + key, IndexOutOfBoundsException.class, () -> x.join(key));
        }
    }

    private static void clear() {
        DimensionLoader x = new DimensionLoader();
        Checks.same("8 empty", x.clear(), 0);
        x.change(0, 0, 1);
        x.change(0, 10, 2);
        x.remove(1);
        x.addFact(0, 5, 1);
        x.change(1, 1, 1);
        x.stage(0, 0, 0);
        Checks.same("8 removed ones are not counted", x.clear(), 2);
        Checks.same("8 no versions", x.versionCount() + x.removedCount(), 0);
        Checks.same("8 no facts", x.factCount(), 0);
        Checks.same("8 no rows", x.staged(), 0);
        Checks.raises("8 no version 0", IndexOutOfBoundsException.class, () -> x.version(0, 0));
        Checks.same("8 numbers begin at 0", x.change(3, 3, 3), 0);
        x.addFact(3, 4, 9);
        Checks.same("8 numbers of facts begin at 0", x.fact(0, 2), 9);
        x.clear();
        x.addFact(4, 7, 1);
        Checks.sameText("8 a number used again keeps nothing", Look.at(x, 0), "4:7-1000=0?");
        DimensionLoader full = Look.full();
        full.clear();
        Checks.same("8 there is room again", full.change(0, 0, 0), 0);
    }

    private static void clearLeaves() {
        DimensionLoader x = new DimensionLoader();
        Look.type(x, "kx");
        Checks.raises("8 text", IllegalArgumentException.class, x::read);
        x.change(0, 0, 1);
        x.addFact(0, 5, 1);
        x.save();
        Look.type(x, "k0@");
        x.change(0, 3, 2);
        Checks.same("8 ahead of clear", x.pointedAnew(), 1);
        x.clear();
        Checks.same("8 pointedAnew", x.pointedAnew(), 0);
        Checks.same("8 the input stays", x.append('5'), 4);
        Checks.same("8 the error position stays", x.errorPosition(), 1);
        Checks.same("8 what was saved stays", x.restore(), 1);
    }
}
