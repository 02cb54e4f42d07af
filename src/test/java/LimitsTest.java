import java.util.NoSuchElementException;

/** At most 60 versions made, 60 facts, 20 staged rows, 30 characters, 512 calls: up to each limit, at it, and behind it. */
final class LimitsTest {
    private static final Class<? extends Exception> STATE = IllegalStateException.class;

    public static void main(String[] args) {
        sixtiethVersion();
        fullOfVersions();
        fullButNoNewOneNeeded();
        goneOnesCount();
        limitOfEachWay();
        fullAndInferredNextOne();
        numbersOfSixty();
        roomAgain();
        sixtyFacts();
        fullOfFacts();
        closeAmongFacts();
        fullOfFactsAndVersions();
        twentyRows();
        manyRowsOverTime();
        rowsOfFullObject();
        thirtyCharacters();
        manyCharactersOverTime();
        textOfFullObject();
        lastCall();
        Checks.end("LimitsTest");
    }

    /** "At most 60 versions can be made": the 60th can, by each call that makes one. */
    private static void sixtiethVersion() {
        Checks.same("60th by change in a gap", Look.filled(59).change(1, 0, 1), 59);
        Checks.same("60th by a split", Look.filled(59).change(0, 999, 1), 59);
        Checks.same("60th by addFact", Look.filled(59).addFact(1, 0, 1), 59);
        DimensionLoader rows = Look.filled(59);
        rows.stage(1, 0, 1);
        Checks.same("60th by loadRows", rows.loadRows(1), 1);
        Checks.same("60th by loadRows", rows.versionAt(1, 0), 59);
        DimensionLoader text = Look.filled(59);
        Look.type(text, "k1@0=1");
        Checks.same("60th by read", text.read(), 1);
        Checks.same("60th by read", text.versionAt(1, 0), 59);
        Checks.same("sixty", text.versionCount(), 60);
        Checks.same("none removed", text.removedCount(), 0);
    }

    /** "if a new version is needed and 60 versions have been made". */
    private static void fullOfVersions() {
        Look.refused("61st by change of another key", STATE, Look::full, x -> x.change(7, 0, 0));
        Look.refused("61st by a split", STATE, Look::full, x -> x.change(0, 5, 1));
        Look.refused("61st by a split of the last one", STATE, Look::full, x -> x.change(0, 999, 58));
        Look.refused("61st by addFact", STATE, Look::full, x -> x.addFact(7, 999, 1));
        Look.Maker gap = () -> {
            DimensionLoader x = Look.full();
            x.close(0, 600);
            return x;
        };
        Look.refused("61st by change behind the last one", STATE, gap, x -> x.change(0, 600, 0));
        Look.refused("61st by addFact behind the last one", STATE, gap, x -> x.addFact(0, 999, 0));
        Look.Maker later = () -> {
            DimensionLoader x = Look.full();
            x.remove(0);
            return x;
        };
        Look.refused("61st by change ahead of one that is not inferred", STATE, later, x -> x.change(0, 0, 0));
        Look.refused("61st by addFact ahead of one that is not inferred", STATE, later, x -> x.addFact(0, 9, 0));
        Look.refused("key first", IndexOutOfBoundsException.class, Look::full, x -> x.change(8, 0, 0));
        Look.refused("day first", IllegalArgumentException.class, Look::full, x -> x.change(7, 1000, 0));
        Look.refused("key first, addFact", IndexOutOfBoundsException.class, Look::full, x -> x.addFact(8, 0, 0));
        Look.refused("day first, addFact", IllegalArgumentException.class, Look::full, x -> x.addFact(7, -1, 0));
    }

    private static void fullButNoNewOneNeeded() {
        DimensionLoader x = Look.full();
        Checks.same("full, on its first day", x.change(0, 10, 100), 1);
        Checks.same("full, value that it has", x.change(0, 19, 100), 1);
        Checks.same("full, fact on a valid one", x.addFact(0, 19, 1), 1);
        Checks.same("full, correct", x.correct(59, 5), 59);
        Checks.same("full, close", x.close(0, 999), 1000);
        Checks.same("full, remove", x.remove(58), 0);
        x.correct(57, 56);
        Checks.same("full, join", x.join(0), 1);
        x.stage(0, 15, 100);
        Checks.same("full, loadRows", x.loadRows(20), 1);
        Look.type(x, "k0@0=7");
        Checks.same("full, read", x.read(), 1);
        Checks.same("full, count", x.versionCount(), 58);
        Checks.same("full, removed", x.removedCount(), 2);
        Look.refused("full, inferred one with the value", STATE, () -> {
            DimensionLoader y = Look.filled(59);
            y.addFact(1, 5, 1);
            return y;
        }, y -> y.change(1, 6, 0));
    }

    /** "Versions that were made and removed count for the limit of 60." */
    private static void goneOnesCount() {
        Look.Maker removed = () -> {
            DimensionLoader x = Look.full();
            for (int i = 20; i < 60; i++) {
                x.remove(i);
            }
            return x;
        };
        Look.refused("forty removed", STATE, removed, x -> x.change(1, 0, 0));
        Look.refused("forty removed, addFact", STATE, removed, x -> x.addFact(1, 0, 0));
        Look.Maker joined = () -> {
            DimensionLoader x = Look.full();
            for (int i = 1; i < 60; i++) {
                x.correct(i, 0);
            }
            Checks.same("59 joined", x.join(0), 59);
            return x;
        };
        Look.refused("59 joined", STATE, joined, x -> x.change(0, 5, 1));
        Look.refused("59 joined, addFact", STATE, joined, x -> x.addFact(1, 5, 1));
        DimensionLoader x = joined.make();
        Checks.same("59 joined, one left", x.versionCount(), 1);
        Checks.same("59 joined, removedCount", x.removedCount(), 59);
        Checks.sameText("59 joined, days", Look.at(x, 0), "0:0-1000=0");
        x.remove(0);
        Checks.same("all sixty gone", x.removedCount(), 60);
        Checks.same("all sixty gone, none left", x.versionCount(), 0);
        Checks.raises("all sixty gone", STATE, () -> x.change(0, 0, 0));
    }

    /** One version made and removed again and again comes to the limit too, and the numbers go on. */
    private static void limitOfEachWay() {
        DimensionLoader x = new DimensionLoader();
        for (int i = 0; i < 60; i++) {
            Checks.same("made and removed", x.change(3, 3, 3), i);
            x.remove(i);
        }
        Checks.raises("made and removed sixty times", STATE, () -> x.change(3, 3, 3));
        Checks.raises("made and removed sixty times, addFact", STATE, () -> x.addFact(3, 3, 3));
        DimensionLoader y = new DimensionLoader();
        for (int i = 0; i < 60; i++) {
            Checks.same("inferred ones", y.addFact(i % 8, 999 - 10 * i, i), i < 8 ? i : i % 8);
        }
        Checks.same("inferred ones that begin earlier are no new ones", y.versionCount(), 8);
    }

    private static void fullAndInferredNextOne() {
        Look.Maker ahead = () -> {
            DimensionLoader x = Look.filled(59);
            x.addFact(1, 500, 1);
            return x;
        };
        DimensionLoader x = ahead.make();
        Checks.same("full, fact ahead of an inferred one", x.addFact(1, 400, 1), 59);
        Checks.sameText("full, fact ahead of an inferred one", Look.at(x, 59), "1:400-1000=0?");
        Checks.same("full, change ahead of an inferred one", x.change(1, 0, 5), 59);
        Checks.sameText("full, change ahead of an inferred one", Look.at(x, 59), "1:0-1000=5");
        Look.refused("full, split of an inferred one", STATE, ahead, y -> y.change(1, 501, 0));
        Look.refused("full, fact of a third key", STATE, ahead, y -> y.addFact(2, 501, 0));
    }

    /** The greatest number of a version is 59; 60 is none. */
    private static void numbersOfSixty() {
        DimensionLoader x = Look.full();
        Checks.sameText("number 0", Look.at(x, 0), "0:0-10=0");
        Checks.sameText("number 59", Look.at(x, 59), "0:590-1000=59");
        Checks.same("place 59", x.versionAt(0, 59), 59);
        Checks.raises("place 60", NoSuchElementException.class, () -> x.versionAt(0, 60));
        Checks.raises("number 60", IndexOutOfBoundsException.class, () -> x.version(60, 0));
        Checks.raises("number 60, isInferred", IndexOutOfBoundsException.class, () -> x.isInferred(60));
        Checks.raises("number 60, amountOf", IndexOutOfBoundsException.class, () -> x.amountOf(60));
        Checks.raises("number 60, correct", IndexOutOfBoundsException.class, () -> x.correct(60, 1));
        Checks.raises("number 60, remove", IndexOutOfBoundsException.class, () -> x.remove(60));
        Checks.same("versionsOf sixty", x.versionsOf(0), 60);
        Checks.same("isCovered by sixty", x.isCovered(0, 0, 999), true);
        Checks.same("validOn 999", x.validOn(0, 999), 59);
        Checks.same("nextAfter 589", x.nextAfter(0, 589), 59);
        Checks.same("clear", x.clear(), 60);
    }

    /** clear and restore give room again. */
    private static void roomAgain() {
        DimensionLoader x = Look.filled(59);
        x.save();
        Checks.same("the 60th", x.change(1, 0, 1), 59);
        Checks.raises("the 61st", STATE, () -> x.change(2, 0, 1));
        Checks.same("restore", x.restore(), 59);
        Checks.same("the 60th again", x.change(2, 0, 1), 59);
        Checks.raises("the 61st again", STATE, () -> x.change(3, 0, 1));
        x.clear();
        for (int i = 0; i < 60; i++) {
            Checks.same("all behind clear", x.change(i % 8, i, i), i);
        }
        Checks.raises("the 61st behind clear", STATE, () -> x.change(0, 999, -1));
        x.save();
        x.clear();
        x.restore();
        Checks.raises("the 61st behind restore", STATE, () -> x.change(0, 999, -1));
    }

    /** "There are at most 60 facts, numbered from 0 in the order in which they were added." */
    private static void sixtyFacts() {
        DimensionLoader x = new DimensionLoader();
        x.change(4, 0, 1);
        for (int i = 0; i < 60; i++) {
            Checks.same("fact " + i, x.addFact(4, 999 - i, i), 0);
            Checks.same("factCount", x.factCount(), i + 1);
        }
        Checks.same("first day of fact 0", x.fact(0, 1), 999);
        Checks.same("amount of fact 59", x.fact(59, 2), 59);
        Checks.raises("fact 60", IndexOutOfBoundsException.class, () -> x.fact(60, 0));
        Checks.raises("the 61st", STATE, () -> x.addFact(4, 0, 1));
        Checks.same("number of facts", x.version(0, 4), 60);
        Checks.same("all sixty pointed anew", x.change(4, 940, 2), 1);
        Checks.same("all sixty pointed anew", x.pointedAnew(), 60);
        Checks.same("sum", x.amountOf(1), 1770);
        Checks.same("remove counts sixty", x.remove(1), 60);
        Checks.same("remove points sixty", x.pointedAnew(), 60);
        x.clear();
        Checks.same("room behind clear", x.addFact(4, 0, 1), 0);
        Checks.same("one", x.factCount(), 1);
    }

    /** "if there are 60 facts": nothing is made or begins earlier then. */
    private static void fullOfFacts() {
        Look.Maker sixty = () -> {
            DimensionLoader x = new DimensionLoader();
            for (int i = 0; i < 60; i++) {
                x.addFact(0, 500, i);
            }
            return x;
        };
        Look.refused("61st on a valid version", STATE, sixty, x -> x.addFact(0, 500, 1));
        Look.refused("61st ahead of an inferred version", STATE, sixty, x -> x.addFact(0, 499, 1));
        Look.refused("61st of another key", STATE, sixty, x -> x.addFact(7, 0, 1));
        Look.refused("61st, key first", IndexOutOfBoundsException.class, sixty, x -> x.addFact(-1, 1000, 1));
        Look.refused("61st, day first", IllegalArgumentException.class, sixty, x -> x.addFact(0, 1000, 1));
        DimensionLoader x = sixty.make();
        Checks.same("full of facts, change", x.change(0, 500, 3), 0);
        Checks.same("full of facts, change of another key", x.change(1, 500, 3), 1);
        x.save();
        Checks.raises("full of facts, restored", STATE, () -> {
            x.restore();
            x.addFact(0, 500, 1);
        });
        DimensionLoader y = sixty.make();
        y.clear();
        y.addFact(0, 1, 1);
        y.save();
        Checks.same("fewer facts", y.addFact(0, 2, 1), 0);
        y.restore();
        Checks.same("fewer facts restored", y.factCount(), 1);
        Checks.raises("fewer facts restored", IndexOutOfBoundsException.class, () -> y.fact(1, 0));
    }

    /** close looks at the sixty facts that there are, and at none that there were. */
    private static void closeAmongFacts() {
        DimensionLoader x = new DimensionLoader();
        for (int i = 0; i < 60; i++) {
            x.addFact(0, 500 + i, i);
        }
        Checks.raises("the last one of sixty", IllegalStateException.class, () -> x.close(0, 559));
        Checks.same("behind the last one of sixty", x.close(0, 560), 1000);
        x.clear();
        x.change(0, 0, 1);
        Checks.same("facts that were cleared", x.close(0, 560), 1000);
        Checks.same("facts that were cleared", x.close(0, 1), 560);
        DimensionLoader y = new DimensionLoader();
        y.change(0, 0, 1);
        y.addFact(0, 5, 1);
        y.save();
        y.addFact(0, 500, 1);
        y.addFact(0, 501, 1);
        y.restore();
        Checks.raises("a fact that was saved", IllegalStateException.class, () -> y.close(0, 5));
        Checks.same("facts that were added behind save", y.close(0, 6), 1000);
    }

    private static void fullOfFactsAndVersions() {
        DimensionLoader x = Look.full();
        for (int i = 0; i < 60; i++) {
            Checks.same("a fact for each version", x.addFact(0, 10 * i + 9, 1), i);
        }
        Checks.raises("both full", STATE, () -> x.addFact(0, 0, 1));
        Checks.raises("both full, another key", STATE, () -> x.addFact(1, 0, 1));
        Checks.raises("both full, change", STATE, () -> x.change(1, 0, 1));
        Checks.same("facts", x.factCount(), 60);
        Checks.same("fact 59", x.fact(59, 3), 59);
        for (int i = 1; i < 60; i++) {
            x.correct(i, 0);
        }
        Checks.same("join of sixty", x.join(0), 59);
        Checks.same("join points 59 facts anew", x.pointedAnew(), 59);
        Checks.same("all on one", x.version(0, 4), 60);
    }

    /** "Up to 20 rows can be staged." */
    private static void twentyRows() {
        Look.Maker twenty = () -> {
            DimensionLoader x = new DimensionLoader();
            for (int i = 0; i < 20; i++) {
                Checks.same("stage", x.stage(7 - i % 8, 40 - 2 * i, i), i + 1);
            }
            return x;
        };
        Look.refused("21st row", STATE, twenty, x -> x.stage(0, 0, 0));
        Look.refused("21st row behind all", STATE, twenty, x -> x.stage(7, 999, 0));
        Look.refused("21st row, key first", IndexOutOfBoundsException.class, twenty, x -> x.stage(8, 1000, 0));
        Look.refused("21st row, day first", IllegalArgumentException.class, twenty, x -> x.stage(0, 1000, 0));
        DimensionLoader x = twenty.make();
        Checks.same("staged", x.staged(), 20);
        Checks.same("next one", x.nextRow(2), 19);
        Checks.same("limit 20 loads all", x.loadRows(20), 20);
        Checks.same("none left", x.staged(), 0);
        Checks.same("twenty versions", x.versionCount(), 20);
        DimensionLoader y = twenty.make();
        Checks.same("limit 1", y.loadRows(1), 1);
        Checks.same("19 left", y.staged(), 19);
        Checks.same("next one of 19", y.nextRow(2), 18);
        Checks.same("room for one", y.stage(0, 0, 5), 20);
        Checks.raises("room for one only", STATE, () -> y.stage(0, 0, 5));
        Checks.same("limit 19", y.loadRows(19), 19);
        Checks.same("one left", y.staged(), 1);
        Checks.same("limit 20 of one", y.loadRows(20), 1);
        Checks.same("limit 20 of none", y.loadRows(20), 0);
        Checks.same("limit 1 of none", y.loadRows(1), 0);
    }

    /** The limit is for rows that are staged at one time. */
    private static void manyRowsOverTime() {
        DimensionLoader x = new DimensionLoader();
        for (int round = 0; round < 10; round++) {
            for (int i = 0; i < 20; i++) {
                x.stage(0, 0, i);
            }
            Checks.same("rows of one day in their order", x.nextRow(2), 0);
            Checks.same("twenty each time", x.loadRows(20), 20);
            Checks.same("the last one wins", x.version(0, 3), 19);
        }
        for (int i = 0; i < 20; i++) {
            x.stage(0, 0, i);
        }
        x.clear();
        Checks.same("none behind clear", x.staged(), 0);
        Checks.same("room behind clear", x.stage(0, 0, 0), 1);
    }

    /** "if a new version would be needed when 60 versions have been made; then no row is loaded". */
    private static void rowsOfFullObject() {
        Look.Maker twenty = () -> {
            DimensionLoader x = Look.filled(41);
            for (int i = 0; i < 20; i++) {
                x.stage(1, 20 - i, i);
            }
            return x;
        };
        Look.refused("the 20th row needs the 61st version", STATE, twenty, x -> x.loadRows(20));
        DimensionLoader x = twenty.make();
        Checks.raises("the 20th row", STATE, () -> x.loadRows(20));
        Checks.same("all stay staged", x.staged(), 20);
        Checks.raises("no room for a 21st row", STATE, () -> x.stage(0, 0, 0));
        Checks.same("19 of them can be loaded", x.loadRows(19), 19);
        Checks.same("sixty", x.versionCount(), 60);
        Checks.raises("the last one can not", STATE, () -> x.loadRows(1));
        Checks.same("it stays staged", x.staged(), 1);
        Look.refused("the first row needs the 61st version", STATE, () -> {
            DimensionLoader y = Look.full();
            y.stage(1, 0, 1);
            y.stage(0, 0, 1);
            y.stage(0, 590, 1);
            y.loadRows(1);
            return y;
        }, y -> y.loadRows(2));
    }

    /** "The input is a buffer of at most 30 characters." */
    private static void thirtyCharacters() {
        Look.Maker thirty = () -> {
            DimensionLoader x = new DimensionLoader();
            String text = "k0@999=-999,k7@000=000,k3@7=77";
            for (int i = 0; i < text.length(); i++) {
                Checks.same("length", x.append(text.charAt(i)), i + 1);
            }
            return x;
        };
        Look.refused("31st character", STATE, thirty, x -> x.append('7'));
        DimensionLoader x = thirty.make();
        Checks.raises("31st character", STATE, () -> x.append('7'));
        Checks.same("thirty are read", x.read(), 3);
        Checks.sameText("thirty are read", Look.at(x, 0) + " " + Look.at(x, 1) + " " + Look.at(x, 2),
                "0:999-1000=-999 7:0-1000=0 3:7-1000=77");
        Checks.same("room behind read", x.append('k'), 1);
        DimensionLoader spaces = new DimensionLoader();
        for (int i = 1; i <= 30; i++) {
            Checks.same("any character", spaces.append((char) (i % 2 == 0 ? 32 : 126)), i);
        }
        Checks.raises("31st of any", STATE, () -> spaces.append(' '));
        Checks.raises("thirty of any", IllegalArgumentException.class, spaces::read);
        Checks.same("error position of any", spaces.errorPosition(), 0);
        Checks.same("room behind a wrong text", spaces.append(' '), 1);
    }

    private static void manyCharactersOverTime() {
        DimensionLoader x = new DimensionLoader();
        for (int round = 0; round < 10; round++) {
            Look.type(x, "k0@1=1,k0@1=2,k0@1=3,k0@1=444");
            Checks.same("30th character", x.append(round % 2 == 0 ? ',' : '4'), 30);
            Checks.raises("30 characters that are wrong", IllegalArgumentException.class, x::read);
            Checks.same("their error position", x.errorPosition(), round % 2 == 0 ? 30 : 29);
        }
        Look.type(x, "k0@1=1,k0@1=2,k0@1=3,k0@01=-44");
        Checks.same("four rows in 30 characters", x.read(), 4);
        Checks.sameText("four rows in 30 characters", Look.at(x, 0), "0:1-1000=-44");
    }

    /** "if a new version would be needed when 60 versions have been made; then no change is made". */
    private static void textOfFullObject() {
        DimensionLoader x = Look.filled(59);
        Look.type(x, "k0@0=99,k1@0=1,k1@1=2");
        Checks.raises("the third row needs the 61st version", STATE, x::read);
        Checks.sameText("no change is made", Look.key(x, 0) + Look.key(x, 1), Look.key(Look.filled(59), 0));
        Checks.raises("no error position", NoSuchElementException.class, x::errorPosition);
        Look.type(x, "k1@0=1,k0@10=8");
        Checks.same("the 60th can be made", x.read(), 2);
        Checks.same("its number", x.validOn(1, 0), 59);
    }

    /** "An object is used for at most 512 calls": the last ones answer as the first ones do. */
    private static void lastCall() {
        DimensionLoader x = Look.full();
        for (int call = 61; call <= 507; call++) {
            Checks.same("call " + call, x.change(0, 0, call), 0);
        }
        Checks.same("call 508", x.addFact(0, 9, 1), 0);
        Checks.same("call 509", x.stage(0, 9, 1), 1);
        Checks.same("call 510", x.append('k'), 1);
        Checks.same("call 511", x.correct(0, 1), 507);
        Checks.same("call 512", x.version(0, 3), 1);
        DimensionLoader y = new DimensionLoader();
        for (int call = 1; call <= 511; call++) {
            Checks.raises("refused call " + call, IndexOutOfBoundsException.class, () -> y.change(8, 0, 0));
        }
        Checks.same("call 512 behind refused ones", y.change(7, 0, 0), 0);
    }
}
