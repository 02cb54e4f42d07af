/** What several tests need to fill an object and to look at it. */
final class Look {
    private Look() {
    }

    /** Key, first day, end and value of a version; a ? behind it if it is inferred. */
    static String at(DimensionLoader x, int version) {
        return x.version(version, 0) + ":" + x.version(version, 1) + "-" + x.version(version, 2)
                + "=" + x.version(version, 3) + (x.isInferred(version) ? "?" : "");
    }

    /** An object whose 60 versions all are of key 0, one each ten days, with their numbers as values. */
    static DimensionLoader full() {
        DimensionLoader x = new DimensionLoader();
        for (int i = 0; i < 60; i++) {
            x.change(0, 10 * i, i);
        }
        return x;
    }

    static void type(DimensionLoader x, String text) {
        for (char character : text.toCharArray()) {
            x.append(character);
        }
    }
}
