import java.util.NoSuchElementException;

/** The three examples at the end of the document's description. */
final class ExamplesTest {
    public static void main(String[] args) {
        splitAndInferred();
        joined();
        staged();
        Checks.end("ExamplesTest");
    }

    private static void splitAndInferred() {
        DimensionLoader x = new DimensionLoader();
        Checks.same("change(0, 10, 3)", x.change(0, 10, 3), 0);
        Checks.same("change(0, 20, 5)", x.change(0, 20, 5), 1);
        Checks.same("addFact(0, 25, 7)", x.addFact(0, 25, 7), 1);
        Checks.same("change(0, 24, 6)", x.change(0, 24, 6), 2);
        Checks.same("pointedAnew()", x.pointedAnew(), 1);
        Checks.same("version(1, 2)", x.version(1, 2), 24);
        Checks.same("addFact(0, 5, 1)", x.addFact(0, 5, 1), 3);
        Checks.same("isInferred(3)", x.isInferred(3), true);
        Checks.same("change(0, 2, 8)", x.change(0, 2, 8), 3);
        Checks.same("version(3, 1)", x.version(3, 1), 2);
        Checks.same("isInferred(3)", x.isInferred(3), false);
        Checks.same("close(0, 40)", x.close(0, 40), 1000);
        Checks.same("gapDays()", x.gapDays(), 960);
    }

    private static void joined() {
        DimensionLoader x = new DimensionLoader();
        Checks.same("change(1, 0, 4)", x.change(1, 0, 4), 0);
        Checks.same("change(1, 9, 4)", x.change(1, 9, 4), 0);
        Checks.same("change(1, 5, 2)", x.change(1, 5, 2), 1);
        Checks.same("versionsOf(1)", x.versionsOf(1), 2);
        Checks.same("correct(1, 4)", x.correct(1, 4), 2);
        Checks.same("join(1)", x.join(1), 1);
        Checks.same("versionsOf(1)", x.versionsOf(1), 1);
        Checks.sameDouble("coverage(1)", x.coverage(1), 1.0);
    }

    private static void staged() {
        DimensionLoader x = new DimensionLoader();
        Checks.same("stage(1, 30, 5)", x.stage(1, 30, 5), 1);
        Checks.same("stage(0, 30, 6)", x.stage(0, 30, 6), 2);
        Checks.same("stage(2, 7, 1)", x.stage(2, 7, 1), 3);
        Checks.same("nextRow(0)", x.nextRow(0), 2);
        Checks.same("loadRows(2)", x.loadRows(2), 2);
        Checks.same("nextRow(0)", x.nextRow(0), 1);
        Checks.raises("validOn(1, 30)", NoSuchElementException.class, () -> x.validOn(1, 30));
    }
}
