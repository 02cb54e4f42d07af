import java.util.NoSuchElementException;

/** Promises 33 to 35 with "Text": each place of a text with each character, and what is left of the input. */
final class TextTest {
    private static final String DIGITS = "0123456789";

    /** Beginnings of a text, each with the characters with which it can go on. */
    private static final String[][] BEGINNINGS = {
        {"", "k"},
        {"k", "01234567"},
        {"k0", "@"},
        {"k7", "@"},
        {"k0@", DIGITS},
        {"k0@1", DIGITS + "="},
        {"k0@0", DIGITS + "="},
        {"k0@12", DIGITS + "="},
        {"k0@99", DIGITS + "="},
        {"k0@123", "="},
        {"k0@000", "="},
        {"k0@1=", DIGITS + "-"},
        {"k0@12=", DIGITS + "-"},
        {"k0@123=", DIGITS + "-"},
        {"k0@1=-", DIGITS},
        {"k0@1=1", DIGITS + ","},
        {"k0@1=0", DIGITS + ","},
        {"k0@1=12", DIGITS + ","},
        {"k0@1=123", ","},
        {"k0@1=000", ","},
        {"k0@1=-1", DIGITS + ","},
        {"k0@1=-12", DIGITS + ","},
        {"k0@1=-123", ","},
        {"k0@1=1,", "k"},
        {"k0@1=1,k", "01234567"},
        {"k0@1=1,k1", "@"},
        {"k0@1=1,k1@", DIGITS},
        {"k0@1=1,k1@2", DIGITS + "="},
        {"k0@1=1,k1@234", "="},
        {"k0@1=1,k1@2=", DIGITS + "-"},
        {"k0@1=1,k1@2=-", DIGITS},
        {"k0@1=1,k1@2=3", DIGITS + ","},
        {"k0@1=1,k1@2=345", ","},
        {"k0@123=-123,k1@234=-345", ","},
        {"k0@123=-123,k1@234=-345,", "k"},
        {"k0@123=-123,k1@234=-345,k2@3", DIGITS + "="},
        {"k0@123=-123,k1@234=-345,k2@34", DIGITS + "="},
        {"k0@123=-123,k1@234=-345,k2@34=", ""}};

    public static void main(String[] args) {
        for (String[] beginning : BEGINNINGS) {
            endsThere(beginning[0]);
            for (char character = 32; character <= 126; character++) {
                goesOn(beginning[0], character, beginning[1].indexOf(character) >= 0);
            }
        }
        eachCode();
        rightTexts();
        wrongTexts();
        rowsInTheirOrder();
        rowsAsChanges();
        emptyAfterwards();
        emptyInput();
        positionKept();
        positionOfTheFirstFault();
        stagedRowsApart();
        Checks.end("TextTest");
    }

    /** A text is right only behind a digit of a value. */
    private static boolean isRight(String text) {
        String row = text.substring(text.lastIndexOf(',') + 1);
        return row.indexOf('=') > 0 && DIGITS.indexOf(row.charAt(row.length() - 1)) >= 0;
    }

    private static int rows(String text) {
        return text.length() - text.replace(",", "").length() + 1;
    }

    private static void endsThere(String text) {
        DimensionLoader x = new DimensionLoader();
        Look.type(x, text);
        if (isRight(text)) {
            Checks.same("read of " + text, x.read(), rows(text));
            Checks.raises("no error position of " + text, NoSuchElementException.class, x::errorPosition);
        } else {
            Checks.raises("read of " + text, IllegalArgumentException.class, x::read);
            Checks.same("error position of " + text, x.errorPosition(), text.length());
            Checks.same("no change by " + text, x.versionCount(), 0);
        }
    }

    private static void goesOn(String beginning, char character, boolean isRightOne) {
        if (beginning.length() == 30) {
            DimensionLoader x = new DimensionLoader();
            Look.type(x, beginning);
            Checks.raises("31st character " + character, IllegalStateException.class, () -> x.append(character));
            return;
        }
        if (isRightOne) {
            endsThere(beginning + character);
            return;
        }
        for (String ending : new String[] {"", "k", "0", "=", "-"}) {
            wrongAt(beginning + character + (beginning.length() < 29 ? ending : ""), beginning.length());
        }
    }

    private static void wrongAt(String text, int due) {
        DimensionLoader x = new DimensionLoader();
        Look.type(x, text);
        Checks.raises("read of " + text, IllegalArgumentException.class, x::read);
        Checks.same("error position of " + text, x.errorPosition(), due);
        Checks.same("no change by " + text, x.versionCount(), 0);
    }

    /** "the character, with a code from 32 to 126": each code that there is. */
    private static void eachCode() {
        DimensionLoader x = new DimensionLoader();
        for (int code = 0; code <= Character.MAX_VALUE; code++) {
            if (code % 100 == 0) {
                x = new DimensionLoader();
            }
            DimensionLoader asked = x;
            char character = (char) code;
            if (code >= 32 && code <= 126) {
                x = new DimensionLoader();
                Checks.same("append code " + code, x.append(character), 1);
            } else {
                Checks.raises("append code " + code, IllegalArgumentException.class, () -> asked.append(character));
            }
        }
    }

    /** "Numbers in a text can have leading zeros; only a value can have a minus sign" */
    private static void rightTexts() {
        String[][] texts = {
            {"k0@0=0", "0:0-1000=0"}, {"k0@00=00", "0:0-1000=0"}, {"k0@000=000", "0:0-1000=0"}, {"k7@999=999", "7:999-1000=999"},
            {"k7@999=-999", "7:999-1000=-999"}, {"k1@1=-0", "1:1-1000=0"}, {"k1@1=-00", "1:1-1000=0"}, {"k1@1=-000", "1:1-1000=0"},
            {"k2@01=01", "2:1-1000=1"}, {"k2@001=001", "2:1-1000=1"}, {"k2@001=-001", "2:1-1000=-1"}, {"k3@010=-010", "3:10-1000=-10"},
            {"k4@100=100", "4:100-1000=100"}, {"k5@8=-9", "5:8-1000=-9"}, {"k6@89=-98", "6:89-1000=-98"}, {"k0@345=678", "0:345-1000=678"}};
        for (String[] text : texts) {
            DimensionLoader x = new DimensionLoader();
            Look.type(x, text[0]);
            Checks.same("read of " + text[0], x.read(), 1);
            Checks.sameText("version of " + text[0], Look.at(x, 0), text[1]);
            Checks.same("one version of " + text[0], x.versionCount(), 1);
        }
    }

    private static void wrongTexts() {
        wrongAt("K0@1=1", 0);
        wrongAt("0@1=1", 0);
        wrongAt(",k0@1=1", 0);
        wrongAt(" k0@1=1", 0);
        wrongAt("k0@1=1 ", 6);
        wrongAt("k0@1=1,", 7);
        wrongAt("k0@1=1,,k0@1=1", 7);
        wrongAt("k0@1=1, k0@1=1", 7);
        wrongAt("k0@1=1;k0@1=1", 6);
        wrongAt("k0@1=1k0@1=1", 6);
        wrongAt("k-0@1=1", 1);
        wrongAt("k8@1=1", 1);
        wrongAt("k9@1=1", 1);
        wrongAt("k00@1=1", 2);
        wrongAt("k10@1=1", 2);
        wrongAt("k0@-1=1", 3);
        wrongAt("k0@+1=1", 3);
        wrongAt("k0@=1", 3);
        wrongAt("k0@0999=1", 6);
        wrongAt("k0@1000=1", 6);
        wrongAt("k0@1=+1", 5);
        wrongAt("k0@1=", 5);
        wrongAt("k0@1=,k0@1=1", 5);
        wrongAt("k0@1=-", 6);
        wrongAt("k0@1=--1", 6);
        wrongAt("k0@1=1-", 6);
        wrongAt("k0@1=1000", 8);
        wrongAt("k0@1=0000", 8);
        wrongAt("k0@1=-1000", 9);
        wrongAt("k0@1=1.0", 6);
        wrongAt("k0@1=1=1", 6);
        wrongAt("k0@1@1", 4);
        wrongAt("k0=1@1", 2);
    }

    /** "its rows are loaded as they are written" - not in the order of days and keys. */
    private static void rowsInTheirOrder() {
        DimensionLoader x = new DimensionLoader();
        Look.type(x, "k1@9=1,k0@9=2,k0@5=3,k0@5=4");
        Checks.same("four rows", x.read(), 4);
        Checks.sameText("key 1 comes first", Look.at(x, 0), "1:9-1000=1");
        Checks.sameText("key 0, later day first", Look.key(x, 0), "2:5-9=4 1:9-1000=2");
        DimensionLoader y = new DimensionLoader();
        Look.type(y, "k0@5=3,k0@9=3");
        Checks.same("two rows", y.read(), 2);
        Checks.sameText("the value that it has", Look.key(y, 0), "0:5-1000=3");
        DimensionLoader z = new DimensionLoader();
        Look.type(z, "k0@9=3,k0@5=3");
        Checks.same("two rows", z.read(), 2);
        Checks.sameText("the other way", Look.key(z, 0), "1:5-9=3 0:9-1000=3");
    }

    private static void rowsAsChanges() {
        DimensionLoader x = new DimensionLoader();
        x.addFact(0, 50, 1);
        x.addFact(1, 50, 1);
        Look.type(x, "k0@40=0,k1@60=0,k1@50=7");
        Checks.same("three rows", x.read(), 3);
        Checks.sameText("an inferred one is completed", Look.key(x, 0), "0:40-1000=0");
        Checks.sameText("an inferred one is split and gets a value", Look.key(x, 1), "1:50-60=7 2:60-1000=0");
        Checks.same("none inferred", x.inferredCount(), 0);
    }

    /** "The input is empty afterwards, whatever happens." */
    private static void emptyAfterwards() {
        DimensionLoader x = new DimensionLoader();
        Look.type(x, "k0@1=1");
        x.read();
        Checks.same("behind a right text", x.append('k'), 1);
        Look.type(x, "0@1=");
        Checks.raises("a wrong text", IllegalArgumentException.class, x::read);
        Checks.same("behind a wrong text", x.append('k'), 1);
        Look.type(x, "0@1=2");
        Checks.same("a right text behind a wrong one", x.read(), 1);
        DimensionLoader full = Look.full();
        Look.type(full, "k1@1=1");
        Checks.raises("a full object", IllegalStateException.class, full::read);
        Checks.same("behind a full object", full.append('k'), 1);
        Look.type(full, "0@0=5");
        Checks.same("a right text behind it", full.read(), 1);
        Checks.raises("and none of it is left", IllegalArgumentException.class, full::read);
        Checks.same("and none of it is left", full.errorPosition(), 0);
    }

    /** "an empty input is not a text" */
    private static void emptyInput() {
        DimensionLoader x = new DimensionLoader();
        Checks.raises("new", IllegalArgumentException.class, x::read);
        Checks.same("new", x.errorPosition(), 0);
        Look.type(x, "k0@1=1");
        x.read();
        Checks.raises("behind a text", IllegalArgumentException.class, x::read);
        Checks.same("behind a text", x.errorPosition(), 0);
        x.stage(0, 0, 0);
        Checks.raises("with staged rows", IllegalArgumentException.class, x::read);
        Checks.same("no row is loaded", x.staged(), 1);
    }

    /** "The error position stays when a later text is right." */
    private static void positionKept() {
        DimensionLoader x = new DimensionLoader();
        Checks.raises("none", NoSuchElementException.class, x::errorPosition);
        Look.type(x, "k0@1=1");
        x.read();
        Checks.raises("none behind a right text", NoSuchElementException.class, x::errorPosition);
        Look.type(x, "k0@1;");
        Checks.raises("wrong text", IllegalArgumentException.class, x::read);
        Checks.same("of a wrong text", x.errorPosition(), 4);
        Look.type(x, "k0@1=1");
        x.read();
        Checks.same("behind a right text", x.errorPosition(), 4);
        Checks.same("asked again", x.errorPosition(), 4);
        x.append('k');
        x.save();
        x.clear();
        x.restore();
        Checks.same("behind append, save, clear and restore", x.errorPosition(), 4);
        Look.type(x, ";");
        Checks.raises("a later wrong text", IllegalArgumentException.class, x::read);
        Checks.same("the last one is kept", x.errorPosition(), 1);
        Checks.raises("an empty input", IllegalArgumentException.class, x::read);
        Checks.same("0 is a position, too", x.errorPosition(), 0);
        DimensionLoader full = Look.full();
        Look.type(full, "k1@1=1");
        Checks.raises("a full object", IllegalStateException.class, full::read);
        Checks.raises("none of a right text", NoSuchElementException.class, full::errorPosition);
    }

    private static void positionOfTheFirstFault() {
        wrongAt("x;;", 0);
        wrongAt("k0;k0;", 2);
        wrongAt("k0@1=1,k0@1=1,k0@1=1,k0@1=1,k8", 29);
        wrongAt("k0@1=1,k0@1=1,k0@1=1,k0@1=1,k7", 30);
        wrongAt("k0@1=1,k0@1=1,k0@1=1,k0@1=1,,,", 28);
        wrongAt("                              ", 0);
    }

    /** "staged rows have nothing to do with it" */
    private static void stagedRowsApart() {
        DimensionLoader x = new DimensionLoader();
        for (int i = 0; i < 20; i++) {
            x.stage(0, 0, i);
        }
        Look.type(x, "k1@1=1,k1@2=2");
        Checks.same("two rows beside twenty", x.read(), 2);
        Checks.same("twenty stay", x.staged(), 20);
        Checks.same("the first one stays", x.nextRow(2), 0);
        Checks.same("none of them is loaded", x.versionsOf(0), 0);
        x.loadRows(20);
        Checks.same("they are loaded by loadRows", x.version(2, 3), 19);
    }
}
