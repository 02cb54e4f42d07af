import java.util.NoSuchElementException;

/** Promises 29 to 35: staged rows and the text. */
final class RowsTest {
    private static final int LEAST = Integer.MIN_VALUE;
    private static final int MOST = Integer.MAX_VALUE;

    public static void main(String[] args) {
        stage();
        stageWrong();
        nextRow();
        loadRows();
        loadRowsWrong();
        loadRowsFull();
        append();
        read();
        readFull();
        errorPositions();
        errorPosition();
        Checks.end("RowsTest");
    }

    private static void stage() {
        DimensionLoader x = new DimensionLoader();
        for (int i = 0; i < 20; i++) {
            Checks.same("29 stage", x.stage(i % 8, 999 - i, i), i + 1);
            Checks.same("30 staged", x.staged(), i + 1);
        }
        Checks.raises("29 twenty rows", IllegalStateException.class, () -> x.stage(0, 0, 0));
        Checks.raises("29 twenty rows, key first", IndexOutOfBoundsException.class, () -> x.stage(8, 0, 0));
        Checks.raises("29 twenty rows, day first", IllegalArgumentException.class, () -> x.stage(0, -1, 0));
        Checks.same("30 twenty", x.staged(), 20);
        Checks.same("29 no change is made", x.versionCount(), 0);
        x.loadRows(1);
        Checks.same("29 room again", x.stage(0, 0, 0), 20);
    }

    private static void stageWrong() {
        DimensionLoader x = new DimensionLoader();
        for (int key : new int[] {LEAST, -1, 8, MOST}) {
            Checks.raises("29 key " + key, IndexOutOfBoundsException.class, () -> x.stage(key, 1000, 0));
        }
        for (int day : new int[] {LEAST, -1, 1000, MOST}) {
            Checks.raises("29 day " + day, IllegalArgumentException.class, () -> x.stage(0, day, 0));
        }
        Checks.same("30 none", x.staged(), 0);
    }

    private static void nextRow() {
        DimensionLoader x = new DimensionLoader();
        Checks.raises("31 no row", NoSuchElementException.class, () -> x.nextRow(2));
        Checks.raises("31 what first", IllegalArgumentException.class, () -> x.nextRow(3));
        x.stage(5, 30, 1);
        Checks.sameText("31 one", next(x), "5 30 1");
        x.stage(4, 31, 2);
        Checks.sameText("31 later day", next(x), "5 30 1");
        x.stage(6, 30, 3);
        Checks.sameText("31 greater key", next(x), "5 30 1");
        x.stage(5, 30, 0);
        Checks.sameText("31 alike", next(x), "5 30 1");
        x.stage(3, 30, -4);
        Checks.sameText("31 lesser key", next(x), "3 30 -4");
        x.stage(7, 29, 9);
        Checks.sameText("31 earlier day", next(x), "7 29 9");
        for (int what : new int[] {LEAST, -1, 3, MOST}) {
            Checks.raises("31 what " + what, IllegalArgumentException.class, () -> x.nextRow(what));
        }
        String order = "";
        for (int i = 0; i < 6; i++) {
            order += next(x) + ";";
            Checks.same("31 load", x.loadRows(1), 1);
        }
        Checks.sameText("31 the whole order", order, "7 29 9;3 30 -4;5 30 1;5 30 0;6 30 3;4 31 2;");
    }

    private static String next(DimensionLoader x) {
        return x.nextRow(0) + " " + x.nextRow(1) + " " + x.nextRow(2);
    }

    private static void loadRows() {
        DimensionLoader x = new DimensionLoader();
        Checks.same("32 no rows", x.loadRows(20), 0);
        x.stage(0, 20, 2);
        x.stage(0, 10, 1);
        x.stage(0, 20, 3);
        Checks.same("32 fewer than there are", x.loadRows(2), 2);
        Checks.sameText("32 in order", Look.at(x, 0) + " " + Look.at(x, 1), "0:10-20=1 0:20-1000=2");
        Checks.same("32 the rest stays", x.staged(), 1);
        Checks.same("32 more than there are", x.loadRows(20), 1);
        Checks.sameText("32 the later one wins", Look.at(x, 1), "0:20-1000=3");
        Checks.same("32 none stays", x.staged(), 0);
        x.addFact(1, 10, 1);
        x.stage(1, 20, 0);
        x.stage(1, 5, 4);
        Checks.same("32 as changes", x.loadRows(3), 2);
        Checks.sameText("32 as changes", Look.at(x, 2) + " " + Look.at(x, 3), "1:5-20=4 1:20-1000=0");
    }

    private static void loadRowsWrong() {
        DimensionLoader x = new DimensionLoader();
        x.stage(0, 20, 2);
        for (int limit : new int[] {LEAST, -1, 0, 21, MOST}) {
            Checks.raises("32 limit " + limit, IllegalArgumentException.class, () -> x.loadRows(limit));
        }
        Checks.same("32 the row stays", x.staged(), 1);
    }

    private static void loadRowsFull() {
        DimensionLoader x = Look.full();
        x.addFact(0, 505, 1);
        x.remove(50);
        Checks.same("32 pointedAnew ahead", x.pointedAnew(), 1);
        x.stage(0, 10, 111);
        x.stage(0, 20, 222);
        x.stage(1, 20, 3);
        Checks.raises("32 full", IllegalStateException.class, () -> x.loadRows(3));
        Checks.sameText("32 full, no row is loaded", Look.at(x, 1) + " " + x.staged(), "0:10-20=1 3");
        Checks.same("32 full, pointedAnew is kept", x.pointedAnew(), 1);
        Checks.same("32 full, as many as go", x.loadRows(2), 2);
        Checks.sameText("32 full, as many as go", Look.at(x, 1) + " " + Look.at(x, 2), "0:10-20=111 0:20-30=222");
        DimensionLoader y = new DimensionLoader();
        for (int i = 0; i < 59; i++) {
            y.change(0, 10 * i, i);
        }
        y.addFact(0, 985, 1);
        y.change(0, 580, 1);
        y.stage(0, 980, 3);
        y.stage(0, 990, 4);
        Checks.raises("32 one goes, one does not", IllegalStateException.class, () -> y.loadRows(2));
        Checks.same("32 the first one is taken back", y.versionCount() + y.removedCount(), 59);
        Checks.sameText("32 the first one is taken back", Look.at(y, 58), "0:580-1000=1");
        Checks.same("32 the fact stays", y.fact(0, 3), 58);
        Checks.same("32 the first one alone", y.loadRows(1), 1);
        Checks.same("32 the fact is pointed", y.fact(0, 3), 59);
    }

    private static void append() {
        DimensionLoader x = new DimensionLoader();
        for (int code : new int[] {0, 31, 127, 128, 255, 65535}) {
            Checks.raises("33 code " + code, IllegalArgumentException.class, () -> x.append((char) code));
        }
        Checks.same("33 code 32", x.append((char) 32), 1);
        Checks.same("33 code 126", x.append((char) 126), 2);
        for (int i = 3; i <= 30; i++) {
            Checks.same("33 append", x.append('k'), i);
        }
        Checks.raises("33 thirty", IllegalStateException.class, () -> x.append('k'));
        Checks.raises("33 thirty, code first", IllegalArgumentException.class, () -> x.append((char) 31));
        Checks.raises("33 thirty, wrong text", IllegalArgumentException.class, x::read);
        Checks.same("33 room again", x.append('k'), 1);
    }

    private static void read() {
        DimensionLoader x = new DimensionLoader();
        x.stage(7, 1, 1);
        Look.type(x, "k0@020=-007,k7@999=999,k0@5=-0");
        Checks.same("34 three rows", x.read(), 3);
        Checks.sameText("34 three rows", Look.at(x, 0) + " " + Look.at(x, 1) + " " + Look.at(x, 2),
                "0:20-1000=-7 7:999-1000=999 0:5-20=0");
        Checks.same("34 staged rows stay", x.staged(), 1);
        Checks.same("34 the input is empty", x.append('k'), 1);
        Look.type(x, "0@9=2,k0@8=1,k0@9=3,k0@7=4");
        Checks.same("34 four rows in their order", x.read(), 4);
        Checks.sameText("34 four rows in their order", Look.at(x, 3) + " " + Look.at(x, 4) + " " + Look.at(x, 5),
                "0:9-20=3 0:8-9=1 0:7-8=4");
        Checks.raises("34 no error position", NoSuchElementException.class, x::errorPosition);
        Look.type(x, "k1@1=1,k1@2=2,");
        Checks.raises("34 no change of a wrong text", IllegalArgumentException.class, x::read);
        Checks.same("34 no change of a wrong text", x.versionsOf(1), 0);
        Checks.raises("34 empty afterwards", IllegalArgumentException.class, x::read);
        Checks.same("34 empty afterwards", x.errorPosition(), 0);
    }

    private static void readFull() {
        DimensionLoader x = Look.full();
        x.addFact(0, 505, 1);
        x.remove(50);
        Look.type(x, "k0@0=9,k1@0=1");
        Checks.raises("34 full", IllegalStateException.class, x::read);
        Checks.sameText("34 full, no change", Look.at(x, 0), "0:0-10=0");
        Checks.same("34 full, pointedAnew is kept", x.pointedAnew(), 1);
        Checks.raises("34 full, no error position", NoSuchElementException.class, x::errorPosition);
        Checks.same("34 full, the input is empty", x.append('k'), 1);
        Look.type(x, "0@0=9,k0@10=8");
        Checks.same("34 full, no new version", x.read(), 2);
        Checks.sameText("34 full, no new version", Look.at(x, 0) + " " + Look.at(x, 1), "0:0-10=9 0:10-20=8");
    }

    private static void errorPositions() {
        String[] texts = {
            "", "k", "k0", "k0@", "k0@1", "k0@12", "k0@123", "k0@123=", "k0@1=-", "k0@1=1,", "k0@1=1,k",
            "K0@1=1", " k0@1=1", "kk", "k8@1=1", "k-1@1=1", "k9", "k/", "k:", "k0=1", "k00@1=1", "k0@@", "k0@=1",
            "k0@-1=1", "k0@1234=1", "k0@1 =1", "k0@123@", "k0@1==1", "k0@1=--1", "k0@1=+1", "k0@1=1-", "k0@1=1234",
            "k0@1=-1234", "k0@1=123 ", "k0@1=1;", "k0@1=1,,", "k0@1=1, k", "k0@1=1k", "k0@1=1,k0@1=x",
            "k0@1=,k", "k0@1=-,", "k0@1=1,k8", "k0@/", "k0@:", "k0@1=/", "k0@1=:",
            "k0@1=1,k0@1=1,k0@1=1,k0@1=1,k0", "k0@111=-111,k0@111=-111,k0@11"};
        int[] due = {
            0, 1, 2, 3, 4, 5, 6, 7, 6, 7, 8,
            0, 0, 1, 1, 1, 1, 1, 1, 2, 2, 3, 3,
            3, 6, 4, 6, 5, 6, 5, 6, 8,
            9, 8, 6, 7, 7, 6, 12,
            5, 6, 8, 3, 3, 5, 5,
            30, 29};
        DimensionLoader x = new DimensionLoader();
        for (int i = 0; i < texts.length; i++) {
            // An object is promised for 512 calls only.
            if (i % 10 == 0) {
                x = new DimensionLoader();
            }
            DimensionLoader reader = x;
            Look.type(x, texts[i]);
            Checks.raises("34 text " + texts[i], IllegalArgumentException.class, reader::read);
            Checks.same("35 text " + texts[i], x.errorPosition(), due[i]);
            Checks.same("34 nothing is changed", x.versionCount(), 0);
        }
    }

    private static void errorPosition() {
        DimensionLoader x = new DimensionLoader();
        Checks.raises("35 none", NoSuchElementException.class, x::errorPosition);
        Look.type(x, "k0;");
        Checks.raises("35 wrong text", IllegalArgumentException.class, x::read);
        Look.type(x, "k0@1=1");
        Checks.same("35 right text", x.read(), 1);
        Checks.same("35 stays when a later text is right", x.errorPosition(), 2);
        Checks.same("35 asking again", x.errorPosition(), 2);
        Checks.raises("35 empty input", IllegalArgumentException.class, x::read);
        Checks.same("35 the last one", x.errorPosition(), 0);
    }
}
