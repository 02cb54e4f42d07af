/** What several tests need to fill an object and to look at it. */
final class Look {
    private Look() {
    }

    interface Maker {
        DimensionLoader make();
    }

    interface Use {
        void on(DimensionLoader x);
    }

    /** Key, first day, end and value of a version; a ? behind it if it is inferred. */
    static String at(DimensionLoader x, int version) {
        return x.version(version, 0) + ":" + x.version(version, 1) + "-" + x.version(version, 2)
                + "=" + x.version(version, 3) + (x.isInferred(version) ? "?" : "");
    }

    /** The versions of a key in the order of their days, each as its number, first day, end and value. */
    static String key(DimensionLoader x, int key) {
        StringBuilder text = new StringBuilder();
        int count = x.versionsOf(key);
        for (int index = 0; index < count; index++) {
            int version = x.versionAt(key, index);
            text.append(index == 0 ? "" : " ").append(version).append(':').append(x.version(version, 1));
            text.append('-').append(x.version(version, 2)).append('=').append(x.version(version, 3));
            text.append(x.isInferred(version) ? "?" : "");
        }
        return text.toString();
    }

    /** An object whose 60 versions all are of key 0, one each ten days, with their numbers as values. */
    static DimensionLoader full() {
        return filled(60);
    }

    static DimensionLoader filled(int versions) {
        DimensionLoader x = new DimensionLoader();
        for (int i = 0; i < versions; i++) {
            x.change(0, 10 * i, i);
        }
        return x;
    }

    /**
     * An object with something of all: key 0 has 0:10-20=3, 1:20-30=5, 5:30-40=9 and, behind a gap, 2:50-1000=6,
     * key 1 has 4:40-1000=0?, and 3 is removed; three facts, two staged rows, an input, a kept error position 2,
     * something else saved, and one fact that the last change pointed anew.
     */
    static DimensionLoader rich() {
        DimensionLoader x = new DimensionLoader();
        type(x, "k0;");
        Checks.answer(x::read);
        x.change(3, 100, 11);
        x.addFact(3, 100, 12);
        x.stage(5, 5, 5);
        x.save();
        x.clear();
        x.change(0, 10, 3);
        x.change(0, 20, 5);
        x.change(0, 50, 6);
        x.change(0, 60, 7);
        x.remove(3);
        x.close(0, 40);
        x.addFact(1, 40, 9);
        x.addFact(0, 12, 7);
        x.addFact(0, 35, 8);
        x.stage(2, 30, 1);
        x.stage(0, 12, 4);
        x.change(0, 30, 9);
        type(x, "k7@5=5");
        return x;
    }

    static void type(DimensionLoader x, String text) {
        for (char character : text.toCharArray()) {
            x.append(character);
        }
    }

    /** All that an object holds; the rows, the input and what was saved are drawn out of it, which uses it up. */
    static String all(DimensionLoader x) {
        StringBuilder all = new StringBuilder(held(x));
        all.append(" anew ").append(x.pointedAnew()).append(" error ").append(Checks.answer(x::errorPosition));
        all.append(" rows").append(rows(x));
        all.append(" read ").append(Checks.answer(x::read)).append(' ').append(Checks.answer(x::errorPosition));
        all.append(' ').append(x.versionCount()).append(' ').append(x.gapDays());
        String restored = Checks.answer(x::restore);
        all.append(" saved ").append(restored);
        // With nothing saved a second look would only cost calls, of which an object is promised 512.
        if (!restored.equals("IllegalStateException")) {
            all.append(held(x)).append(rows(x));
        }
        return all.toString();
    }

    private static String held(DimensionLoader x) {
        StringBuilder held = new StringBuilder();
        held.append(x.versionCount()).append(' ').append(x.removedCount()).append(' ').append(x.inferredCount());
        for (int key = 0; key < 8; key++) {
            held.append(" key ").append(key(x, key));
        }
        int facts = x.factCount();
        for (int fact = 0; fact < facts; fact++) {
            held.append(" fact ").append(x.fact(fact, 0)).append(' ').append(x.fact(fact, 1));
            held.append(' ').append(x.fact(fact, 2)).append(' ').append(x.fact(fact, 3));
        }
        return held.toString();
    }

    private static String rows(DimensionLoader x) {
        StringBuilder rows = new StringBuilder();
        int count = x.staged();
        for (int row = 0; row < count; row++) {
            rows.append(' ').append(x.nextRow(0)).append('@').append(x.nextRow(1)).append('=').append(x.nextRow(2));
            rows.append(' ').append(Checks.answer(() -> x.loadRows(1)));
        }
        return rows.toString();
    }

    /** A call that is to be refused with this exception, and behind which all is as it was. */
    static void refused(String what, Class<? extends Exception> due, Maker maker, Use call) {
        DimensionLoader x = maker.make();
        Checks.raises(what, due, () -> call.on(x));
        Checks.sameText(what + " leaves all", all(x), all(maker.make()));
    }
}
