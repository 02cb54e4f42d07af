/** Promises 36 and 37: save and restore. */
final class SavingTest {
    public static void main(String[] args) {
        nothingSaved();
        savedEmpty();
        restored();
        savedAgain();
        numbers();
        wholeFacts();
        fullOfAll();
        leaves();
        Checks.end("SavingTest");
    }

    private static void nothingSaved() {
        DimensionLoader x = new DimensionLoader();
        x.change(0, 0, 1);
        Checks.raises("37 nothing was saved", IllegalStateException.class, x::restore);
        x.clear();
        Checks.raises("37 still nothing", IllegalStateException.class, x::restore);
    }

    private static void savedEmpty() {
        DimensionLoader x = new DimensionLoader();
        Checks.same("36 empty", x.save(), 0);
        x.change(0, 0, 1);
        x.addFact(0, 0, 1);
        x.stage(0, 0, 1);
        Checks.same("37 empty", x.restore(), 0);
        Checks.same("37 empty", x.versionCount() + x.factCount() + x.staged(), 0);
        Checks.raises("37 empty", IndexOutOfBoundsException.class, () -> x.version(0, 0));
    }

    private static void restored() {
        DimensionLoader x = new DimensionLoader();
        x.change(0, 10, 1);
        x.change(0, 20, 2);
        x.addFact(1, 30, 7);
        x.addFact(0, 25, 8);
        x.change(0, 15, 3);
        x.remove(3);
        x.stage(4, 9, 9);
        x.stage(3, 9, 8);
        Checks.same("36 removed ones are not counted", x.save(), 3);
        x.correct(0, 5);
        x.correct(2, 5);
        x.change(0, 25, 6);
        x.change(0, 5, 6);
        x.close(0, 30);
        x.addFact(0, 5, 1);
        x.loadRows(1);
        Checks.same("37 versions", x.restore(), 3);
        Checks.sameText("37 versions", Look.at(x, 0) + " " + Look.at(x, 1) + " " + Look.at(x, 2),
                "0:10-20=1 0:20-1000=2 1:30-1000=0?");
        Checks.same("37 removed", x.removedCount(), 1);
        Checks.raises("37 removed", IndexOutOfBoundsException.class, () -> x.version(3, 0));
        Checks.same("37 facts", x.factCount(), 2);
        Checks.sameText("37 facts", x.fact(1, 0) + " " + x.fact(1, 1) + " " + x.fact(1, 2) + " " + x.fact(1, 3), "0 25 8 1");
        Checks.same("37 rows", x.staged(), 2);
        Checks.sameText("37 rows", x.nextRow(0) + " " + x.nextRow(1) + " " + x.nextRow(2), "3 9 8");
        x.clear();
        x.change(7, 7, 7);
        Checks.same("37 it stays saved", x.restore(), 3);
        Checks.sameText("37 it stays saved", Look.at(x, 0), "0:10-20=1");
    }

    private static void savedAgain() {
        DimensionLoader x = new DimensionLoader();
        x.change(0, 10, 1);
        x.save();
        x.change(0, 20, 2);
        Checks.same("36 again", x.save(), 2);
        x.clear();
        Checks.same("36 what was saved before is replaced", x.restore(), 2);
        Checks.raises("37 a call that throws", IllegalStateException.class, () -> x.close(0, 10));
        x.restore();
        x.correct(0, 50);
        x.restore();
        Checks.same("37 changes behind restore are not saved", x.version(0, 3), 1);
    }

    private static void numbers() {
        DimensionLoader x = new DimensionLoader();
        x.change(0, 10, 1);
        x.save();
        x.change(0, 20, 2);
        x.remove(1);
        x.restore();
        Checks.same("37 none removed", x.removedCount(), 0);
        Checks.same("37 the number is used again", x.change(0, 30, 3), 1);
        Checks.sameText("37 the number is used again", Look.at(x, 1), "0:30-1000=3");
        DimensionLoader full = Look.full();
        full.remove(59);
        Checks.same("36 fifty-nine", full.save(), 59);
        full.clear();
        full.restore();
        Checks.raises("37 sixty have been made", IllegalStateException.class, () -> full.change(1, 0, 0));
    }

    private static void wholeFacts() {
        DimensionLoader x = new DimensionLoader();
        x.change(3, 0, 1);
        x.change(3, 50, 2);
        x.remove(1);
        x.addFact(3, 40, 7);
        x.addFact(3, 60, -8);
        x.save();
        x.clear();
        x.change(5, 10, 4);
        x.change(5, 20, 5);
        x.addFact(5, 20, 1);
        x.addFact(5, 21, 2);
        x.restore();
        Checks.raises("37 removed ones are removed again", IndexOutOfBoundsException.class, () -> x.version(1, 0));
        for (int fact = 0; fact < 2; fact++) {
            Checks.sameText("37 fact " + fact, x.fact(fact, 0) + " " + x.fact(fact, 1) + " " + x.fact(fact, 2)
                    + " " + x.fact(fact, 3), fact == 0 ? "3 40 7 0" : "3 60 -8 0");
        }
    }

    private static void fullOfAll() {
        DimensionLoader x = Look.full();
        for (int i = 0; i < 60; i++) {
            x.addFact(0, 10 * i, i);
        }
        for (int i = 0; i < 20; i++) {
            x.stage(0, i, i);
        }
        Checks.same("36 all is full", x.save(), 60);
        x.clear();
        Checks.same("37 all is full", x.restore(), 60);
        Checks.sameText("37 all is full", x.factCount() + " " + x.fact(59, 2) + " " + x.staged(), "60 59 20");
    }

    private static void leaves() {
        DimensionLoader x = new DimensionLoader();
        Look.type(x, "k5;");
        Checks.raises("37 wrong text", IllegalArgumentException.class, x::read);
        Look.type(x, "k0@");
        x.change(0, 0, 1);
        x.addFact(0, 9, 1);
        x.save();
        Look.type(x, "5=");
        x.change(0, 5, 2);
        Checks.same("37 pointedAnew ahead", x.pointedAnew(), 1);
        x.restore();
        Checks.same("37 pointedAnew", x.pointedAnew(), 0);
        Checks.same("37 the error position stays", x.errorPosition(), 2);
        Checks.same("37 the input stays", x.append('7'), 6);
        Checks.same("37 the input stays", x.read(), 1);
        Checks.sameText("37 the input stays", Look.at(x, 1), "0:5-1000=7");
    }
}
