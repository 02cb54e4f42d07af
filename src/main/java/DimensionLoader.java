import java.util.NoSuchElementException;

/** A loader of slowly changing dimensions; DOC.md tells what each call answers. */
public final class DimensionLoader {
    private static final int KEYS = 8;
    private static final int DAYS = 1000;
    private static final int MOST_VERSIONS = 60;
    private static final int MOST_FACTS = 60;
    private static final int MOST_ROWS = 20;
    private static final int MOST_CHARACTERS = 30;
    private static final int MOST_DIGITS = 3;
    /** Stands for a version, a digit or a number that there is not, and for the day ahead of all. */
    private static final int NONE = -1;

    private final Store live = new Store();
    private final Store saved = new Store();
    private final Versions before = new Versions();
    private final Rows told = new Rows();
    private final Text input = new Text();
    private boolean hasSaved;
    private int keptError = NONE;
    private int moved;

    public DimensionLoader() {
    }

    // changes and facts

    public int change(int key, int day, int value) throws IndexOutOfBoundsException, IllegalArgumentException, IllegalStateException {
        checkKey(key);
        checkDay(day);
        int version = live.versions.put(key, day, value);
        if (version == NONE) {
            throw new IllegalStateException();
        }
        pointFacts();
        return version;
    }

    public int addFact(int key, int day, int amount) throws IndexOutOfBoundsException, IllegalArgumentException, IllegalStateException {
        checkKey(key);
        checkDay(day);
        if (live.facts.isFull()) {
            throw new IllegalStateException();
        }
        int version = live.versions.cover(key, day);
        if (version == NONE) {
            throw new IllegalStateException();
        }
        pointFacts();
        live.facts.add(key, day, amount, version);
        return version;
    }

    public int close(int key, int day) throws IndexOutOfBoundsException, IllegalArgumentException, NoSuchElementException, IllegalStateException {
        checkKey(key);
        checkDay(day);
        Versions versions = live.versions;
        int version = versions.onDay(key, day);
        if (version == NONE) {
            throw new NoSuchElementException();
        }
        if (versions.firsts[version] == day || live.facts.pointFrom(day, version)) {
            throw new IllegalStateException();
        }
        int end = versions.ends[version];
        versions.ends[version] = day;
        pointFacts();
        return end;
    }

    public int correct(int version, int value) throws IndexOutOfBoundsException {
        checkVersion(version);
        int previous = live.versions.values[version];
        live.versions.settle(version, value);
        return previous;
    }

    public int remove(int version) throws IndexOutOfBoundsException, IllegalStateException {
        checkVersion(version);
        int facts = live.facts.countOf(version);
        int heir = live.versions.endingWhereBegins(version);
        if (facts > 0 && heir == NONE) {
            throw new IllegalStateException();
        }
        if (heir == NONE) {
            live.versions.drop(version);
        } else {
            live.versions.merge(heir, version);
        }
        pointFacts();
        return facts;
    }

    public int join(int key) throws IndexOutOfBoundsException {
        checkKey(key);
        int joined = live.versions.joinAlike(key);
        pointFacts();
        return joined;
    }

    public int clear() {
        int count = live.versions.count();
        live.empty();
        moved = 0;
        return count;
    }

    // versions

    public int versionCount() {
        return live.versions.count();
    }

    public int versionsOf(int key) throws IndexOutOfBoundsException {
        checkKey(key);
        return live.versions.countOf(key);
    }

    public int versionAt(int key, int index) throws IndexOutOfBoundsException, NoSuchElementException {
        checkKey(key);
        return found(live.versions.atPlace(key, index));
    }

    public int validOn(int key, int day) throws IndexOutOfBoundsException, IllegalArgumentException, NoSuchElementException {
        checkKey(key);
        checkDay(day);
        return found(live.versions.onDay(key, day));
    }

    public int nextAfter(int key, int day) throws IndexOutOfBoundsException, IllegalArgumentException, NoSuchElementException {
        checkKey(key);
        checkDay(day);
        return found(live.versions.next(key, day));
    }

    public int version(int version, int what) throws IndexOutOfBoundsException, IllegalArgumentException {
        checkVersion(version);
        switch (what) {
            case 0:
                return live.versions.keys[version];
            case 1:
                return live.versions.firsts[version];
            case 2:
                return live.versions.ends[version];
            case 3:
                return live.versions.values[version];
            case 4:
                return live.facts.countOf(version);
            case 5:
                return live.versions.days(version);
            default:
                throw new IllegalArgumentException();
        }
    }

    public boolean isInferred(int version) throws IndexOutOfBoundsException {
        checkVersion(version);
        return live.versions.inferred[version];
    }

    public int firstInferred() throws NoSuchElementException {
        return found(live.versions.earliestInferred());
    }

    public int inferredCount() {
        return live.versions.countInferred();
    }

    public int removedCount() {
        return live.versions.made - live.versions.count();
    }

    // facts

    public int factCount() {
        return live.facts.count;
    }

    public int fact(int fact, int what) throws IndexOutOfBoundsException, IllegalArgumentException {
        if (fact < 0 || fact >= live.facts.count) {
            throw new IndexOutOfBoundsException();
        }
        switch (what) {
            case 0:
                return live.facts.keys[fact];
            case 1:
                return live.facts.days[fact];
            case 2:
                return live.facts.amounts[fact];
            case 3:
                return live.facts.versions[fact];
            case 4:
                return live.versions.valueOf(live.facts.versions[fact]);
            default:
                throw new IllegalArgumentException();
        }
    }

    public long amountOf(int version) throws IndexOutOfBoundsException {
        checkVersion(version);
        return live.facts.sumOf(version);
    }

    public long amountFor(int key, int value) throws IndexOutOfBoundsException {
        checkKey(key);
        Versions versions = live.versions;
        long sum = 0;
        for (int version = 0; version < versions.made; version++) {
            if (versions.isOf(version, key) && versions.values[version] == value) {
                sum += live.facts.sumOf(version);
            }
        }
        return sum;
    }

    public int pointedAnew() {
        return moved;
    }

    // gaps

    public int gaps(int key) throws IndexOutOfBoundsException {
        checkKey(key);
        return live.versions.countGaps(key);
    }

    public int gapDay(int key, int gap, boolean isLast) throws IndexOutOfBoundsException, NoSuchElementException {
        checkKey(key);
        Versions versions = live.versions;
        int version = found(versions.aheadOfGap(key, gap));
        return isLast ? versions.nextFirst(key, versions.firsts[version]) - 1 : versions.ends[version];
    }

    public int gapDays() {
        return live.versions.sumGaps();
    }

    public double coverage(int key) throws IndexOutOfBoundsException, ArithmeticException {
        checkKey(key);
        if (live.versions.countOf(key) == 0) {
            throw new ArithmeticException();
        }
        // A first day is at most 999, so the divisor is never 0.
        return (double) live.versions.sumDays(key) / (double) (DAYS - live.versions.nextFirst(key, NONE));
    }

    public boolean isCovered(int key, int from, int to) throws IndexOutOfBoundsException, IllegalArgumentException {
        checkKey(key);
        checkDay(from);
        checkDay(to);
        return live.versions.fill(key, from, to);
    }

    // staged rows

    public int stage(int key, int day, int value) throws IndexOutOfBoundsException, IllegalArgumentException, IllegalStateException {
        checkKey(key);
        checkDay(day);
        if (!live.rows.insert(key, day, value)) {
            throw new IllegalStateException();
        }
        return live.rows.count;
    }

    public int staged() {
        return live.rows.count;
    }

    public int nextRow(int what) throws IllegalArgumentException, NoSuchElementException {
        if (what < 0 || what > 2) {
            throw new IllegalArgumentException();
        }
        if (live.rows.count == 0) {
            throw new NoSuchElementException();
        }
        if (what == 0) {
            return live.rows.keys[0];
        }
        return what == 1 ? live.rows.days[0] : live.rows.values[0];
    }

    public int loadRows(int limit) throws IllegalArgumentException, IllegalStateException {
        if (limit < 1 || limit > MOST_ROWS) {
            throw new IllegalArgumentException();
        }
        int count = Math.min(limit, live.rows.count);
        if (!makeChanges(live.rows, count)) {
            throw new IllegalStateException();
        }
        live.rows.dropFirst(count);
        return count;
    }

    public int append(char character) throws IllegalArgumentException, IllegalStateException {
        if (character < 32 || character > 126) {
            throw new IllegalArgumentException();
        }
        if (!input.add(character)) {
            throw new IllegalStateException();
        }
        return input.length;
    }

    public int read() throws IllegalArgumentException, IllegalStateException {
        boolean isText = input.takeRows(told);
        input.length = 0;
        if (!isText) {
            keptError = input.place;
            throw new IllegalArgumentException();
        }
        if (!makeChanges(told, told.count)) {
            throw new IllegalStateException();
        }
        return told.count;
    }

    public int errorPosition() throws NoSuchElementException {
        return found(keptError);
    }

    // saving

    public int save() {
        saved.copy(live);
        hasSaved = true;
        return live.versions.count();
    }

    public int restore() throws IllegalStateException {
        if (!hasSaved) {
            throw new IllegalStateException();
        }
        live.copy(saved);
        moved = 0;
        return live.versions.count();
    }

    private static void checkKey(int key) {
        if (key < 0 || key >= KEYS) {
            throw new IndexOutOfBoundsException();
        }
    }

    private static void checkDay(int day) {
        if (day < 0 || day >= DAYS) {
            throw new IllegalArgumentException();
        }
    }

    private void checkVersion(int version) {
        if (!live.versions.has(version)) {
            throw new IndexOutOfBoundsException();
        }
    }

    private static int found(int number) {
        if (number == NONE) {
            throw new NoSuchElementException();
        }
        return number;
    }

    private void pointFacts() {
        moved = live.facts.pointTo(live.versions);
    }

    /** Facts are pointed only at the end: then they tell what moved in all, and a failure need not take them back. */
    private boolean makeChanges(Rows rows, int count) {
        before.copy(live.versions);
        for (int row = 0; row < count && row < rows.count; row++) {
            if (live.versions.put(rows.keys[row], rows.days[row], rows.values[row]) == NONE) {
                live.versions.copy(before);
                return false;
            }
        }
        pointFacts();
        return true;
    }

    /** What save keeps and restore brings back. */
    private static final class Store {
        final Versions versions = new Versions();
        final Facts facts = new Facts();
        final Rows rows = new Rows();

        void empty() {
            versions.made = 0;
            facts.count = 0;
            rows.count = 0;
        }

        void copy(Store other) {
            versions.copy(other.versions);
            facts.copy(other.facts);
            rows.copy(other.rows);
        }
    }

    /** All versions that were made, by their numbers; removed ones stay, as their numbers are not used again. */
    private static final class Versions {
        final int[] keys = new int[MOST_VERSIONS];
        final int[] firsts = new int[MOST_VERSIONS];
        final int[] ends = new int[MOST_VERSIONS];
        final int[] values = new int[MOST_VERSIONS];
        final boolean[] inferred = new boolean[MOST_VERSIONS];
        final boolean[] gone = new boolean[MOST_VERSIONS];
        int made;

        boolean has(int version) {
            return version >= 0 && version < made && !gone[version];
        }

        boolean isOf(int version, int key) {
            return has(version) && keys[version] == key;
        }

        int valueOf(int version) {
            return has(version) ? values[version] : 0;
        }

        int days(int version) {
            return has(version) ? ends[version] - firsts[version] : 0;
        }

        /** The version of a key that is valid on a day, or NONE. */
        int onDay(int key, int day) {
            for (int version = 0; version < made; version++) {
                if (isOf(version, key) && firsts[version] <= day && day < ends[version]) {
                    return version;
                }
            }
            return NONE;
        }

        /** The next version of a key after a day, or NONE; after the day NONE it is the first one. */
        int next(int key, int day) {
            int next = NONE;
            for (int version = 0; version < made; version++) {
                if (isOf(version, key) && firsts[version] > day && (next == NONE || firsts[version] < firsts[next])) {
                    next = version;
                }
            }
            return next;
        }

        /** The first day of the next version, or the end of all days. */
        int nextFirst(int key, int day) {
            int next = next(key, day);
            return next == NONE ? DAYS : firsts[next];
        }

        /** Makes a change; NONE, and nothing is changed, if a new version is needed and can't be made. */
        int put(int key, int day, int value) {
            int version = onDay(key, day);
            if (version == NONE) {
                version = cover(key, day);
            } else if (firsts[version] < day) {
                if (!inferred[version] && values[version] == value) {
                    return version;
                }
                version = split(version, day);
            }
            if (version != NONE) {
                settle(version, value);
            }
            return version;
        }

        /** The version that is valid on the day, an inferred one if need be; NONE if it can't be made. */
        int cover(int key, int day) {
            int version = onDay(key, day);
            if (version != NONE) {
                return version;
            }
            int next = next(key, day);
            if (next != NONE && inferred[next]) {
                firsts[next] = day;
                return next;
            }
            return make(key, day, next == NONE ? DAYS : firsts[next]);
        }

        private int split(int version, int day) {
            int part = make(keys[version], day, ends[version]);
            if (part != NONE) {
                ends[version] = day;
            }
            return part;
        }

        /** Makes an inferred version with the value 0, or answers NONE if the numbers are used up. */
        private int make(int key, int first, int end) {
            if (made >= MOST_VERSIONS) {
                return NONE;
            }
            int version = made;
            made++;
            keys[version] = key;
            firsts[version] = first;
            ends[version] = end;
            values[version] = 0;
            inferred[version] = true;
            gone[version] = false;
            return version;
        }

        void settle(int version, int value) {
            if (has(version)) {
                values[version] = value;
                inferred[version] = false;
            }
        }

        /** The version of the same key that ends at the day at which this one begins, or NONE. */
        int endingWhereBegins(int version) {
            if (!has(version)) {
                return NONE;
            }
            for (int other = 0; other < made; other++) {
                if (isOf(other, keys[version]) && ends[other] == firsts[version]) {
                    return other;
                }
            }
            return NONE;
        }

        void drop(int version) {
            if (has(version)) {
                gone[version] = true;
            }
        }

        /** Gives the days of the second version to the first one, and drops the second. */
        void merge(int version, int second) {
            if (has(version) && has(second)) {
                ends[version] = ends[second];
                gone[second] = true;
            }
        }

        /** Joins neighboring versions of a key that are alike; answers how many were dropped. */
        int joinAlike(int key) {
            int joined = 0;
            int version = next(key, NONE);
            for (int step = 0; step < made && version != NONE; step++) {
                int second = next(key, firsts[version]);
                if (second != NONE && areAlike(version, second)) {
                    merge(version, second);
                    joined++;
                } else {
                    version = second;
                }
            }
            return joined;
        }

        private boolean areAlike(int version, int second) {
            return ends[version] == firsts[second] && values[version] == values[second]
                    && !inferred[version] && !inferred[second];
        }

        int count() {
            int count = 0;
            for (int version = 0; version < made; version++) {
                if (has(version)) {
                    count++;
                }
            }
            return count;
        }

        int countOf(int key) {
            int count = 0;
            for (int version = 0; version < made; version++) {
                if (isOf(version, key)) {
                    count++;
                }
            }
            return count;
        }

        int countInferred() {
            int count = 0;
            for (int version = 0; version < made; version++) {
                if (has(version) && inferred[version]) {
                    count++;
                }
            }
            return count;
        }

        /** The version of a key with this index in the order of days, or NONE. */
        int atPlace(int key, int index) {
            if (index < 0 || index >= made) {
                return NONE;
            }
            int version = next(key, NONE);
            for (int place = 0; place < index && version != NONE; place++) {
                version = next(key, firsts[version]);
            }
            return version;
        }

        int earliestInferred() {
            int earliest = NONE;
            for (int version = 0; version < made; version++) {
                if (has(version) && inferred[version] && (earliest == NONE || isEarlier(version, earliest))) {
                    earliest = version;
                }
            }
            return earliest;
        }

        private boolean isEarlier(int version, int other) {
            return firsts[version] < firsts[other]
                    || (firsts[version] == firsts[other] && keys[version] < keys[other]);
        }

        /** The number of days between a version and the next one of its key, or the end of all days. */
        private int gapBehind(int version) {
            return has(version) ? nextFirst(keys[version], firsts[version]) - ends[version] : 0;
        }

        int countGaps(int key) {
            int count = 0;
            for (int version = 0; version < made; version++) {
                if (isOf(version, key) && gapBehind(version) > 0) {
                    count++;
                }
            }
            return count;
        }

        int sumGaps() {
            int sum = 0;
            for (int version = 0; version < made; version++) {
                sum += gapBehind(version);
            }
            return sum;
        }

        /** The version directly ahead of the gap with this index in the order of days, or NONE. */
        int aheadOfGap(int key, int gap) {
            int gapsAhead = 0;
            int version = next(key, NONE);
            for (int step = 0; step < made && version != NONE; step++) {
                if (gapBehind(version) > 0) {
                    if (gapsAhead == gap) {
                        return version;
                    }
                    gapsAhead++;
                }
                version = next(key, firsts[version]);
            }
            return NONE;
        }

        int sumDays(int key) {
            int sum = 0;
            for (int version = 0; version < made; version++) {
                if (isOf(version, key)) {
                    sum += days(version);
                }
            }
            return sum;
        }

        /** Whether versions of a key fill the days; each step uses one up, so as many steps as versions will do. */
        boolean fill(int key, int from, int to) {
            int day = from;
            for (int step = 0; step < made && day <= to; step++) {
                int version = onDay(key, day);
                if (version == NONE) {
                    return false;
                }
                day = ends[version];
            }
            return day > to;
        }

        void copy(Versions other) {
            for (int version = 0; version < other.made; version++) {
                keys[version] = other.keys[version];
                firsts[version] = other.firsts[version];
                ends[version] = other.ends[version];
                values[version] = other.values[version];
                inferred[version] = other.inferred[version];
                gone[version] = other.gone[version];
            }
            made = other.made;
        }
    }

    /** The facts by their numbers, each with the version to which it points. */
    private static final class Facts {
        final int[] keys = new int[MOST_FACTS];
        final int[] days = new int[MOST_FACTS];
        final int[] amounts = new int[MOST_FACTS];
        final int[] versions = new int[MOST_FACTS];
        int count;

        boolean isFull() {
            return count >= MOST_FACTS;
        }

        void add(int key, int day, int amount, int version) {
            if (isFull()) {
                return;
            }
            keys[count] = key;
            days[count] = day;
            amounts[count] = amount;
            versions[count] = version;
            count++;
        }

        /** Points each fact to the version of its day; answers how many point to another one then. */
        int pointTo(Versions all) {
            int moved = 0;
            for (int fact = 0; fact < count; fact++) {
                int version = all.onDay(keys[fact], days[fact]);
                if (version != versions[fact]) {
                    versions[fact] = version;
                    moved++;
                }
            }
            return moved;
        }

        boolean pointFrom(int day, int version) {
            for (int fact = 0; fact < count; fact++) {
                if (versions[fact] == version && days[fact] >= day) {
                    return true;
                }
            }
            return false;
        }

        int countOf(int version) {
            int number = 0;
            for (int fact = 0; fact < count; fact++) {
                if (versions[fact] == version) {
                    number++;
                }
            }
            return number;
        }

        long sumOf(int version) {
            long sum = 0;
            for (int fact = 0; fact < count; fact++) {
                if (versions[fact] == version) {
                    sum += amounts[fact];
                }
            }
            return sum;
        }

        void copy(Facts other) {
            for (int fact = 0; fact < other.count; fact++) {
                keys[fact] = other.keys[fact];
                days[fact] = other.days[fact];
                amounts[fact] = other.amounts[fact];
                versions[fact] = other.versions[fact];
            }
            count = other.count;
        }
    }

    /** Rows in the order in which they are to be loaded. */
    private static final class Rows {
        final int[] keys = new int[MOST_ROWS];
        final int[] days = new int[MOST_ROWS];
        final int[] values = new int[MOST_ROWS];
        int count;

        /** Puts a row behind all that are to be loaded ahead of it, those like it included; false if there is no room. */
        boolean insert(int key, int day, int value) {
            if (count >= MOST_ROWS) {
                return false;
            }
            int place = count;
            for (; place > 0 && isBehind(place - 1, key, day); place--) {
                set(place, keys[place - 1], days[place - 1], values[place - 1]);
            }
            set(place, key, day, value);
            count++;
            return true;
        }

        boolean addLast(int key, int day, int value) {
            if (count >= MOST_ROWS) {
                return false;
            }
            set(count, key, day, value);
            count++;
            return true;
        }

        private boolean isBehind(int row, int key, int day) {
            return days[row] > day || (days[row] == day && keys[row] > key);
        }

        private void set(int row, int key, int day, int value) {
            keys[row] = key;
            days[row] = day;
            values[row] = value;
        }

        void dropFirst(int number) {
            if (number < 0 || number > count) {
                return;
            }
            for (int row = number; row < count; row++) {
                set(row - number, keys[row], days[row], values[row]);
            }
            count -= number;
        }

        void copy(Rows other) {
            for (int row = 0; row < other.count; row++) {
                set(row, other.keys[row], other.days[row], other.values[row]);
            }
            count = other.count;
        }
    }

    /** The input, and the place up to which it was understood. */
    private static final class Text {
        final char[] characters = new char[MOST_CHARACTERS];
        int length;
        int place;

        boolean add(char character) {
            if (length >= MOST_CHARACTERS) {
                return false;
            }
            characters[length] = character;
            length++;
            return true;
        }

        /**
         * Takes the rows of the text; false if it is not a text. No part takes a character
         * that could not go on, so that the place is the error position then.
         */
        boolean takeRows(Rows rows) {
            rows.count = 0;
            place = 0;
            for (int row = 0; row <= length; row++) {
                if (!takeRow(rows)) {
                    return false;
                }
                if (place == length) {
                    return true;
                }
                if (!take(',')) {
                    return false;
                }
            }
            return false;
        }

        private boolean takeRow(Rows rows) {
            if (!take('k')) {
                return false;
            }
            int key = takeDigit('7');
            if (key == NONE || !take('@')) {
                return false;
            }
            int day = takeNumber();
            if (day == NONE || !take('=')) {
                return false;
            }
            boolean isNegative = take('-');
            int number = takeNumber();
            if (number == NONE) {
                return false;
            }
            return rows.addLast(key, day, isNegative ? -number : number);
        }

        private boolean take(char character) {
            if (place < length && characters[place] == character) {
                place++;
                return true;
            }
            return false;
        }

        private int takeDigit(char greatest) {
            if (place >= length || characters[place] < '0' || characters[place] > greatest) {
                return NONE;
            }
            int digit = characters[place] - '0';
            place++;
            return digit;
        }

        private int takeNumber() {
            int number = takeDigit('9');
            if (number == NONE) {
                return NONE;
            }
            for (int taken = 1; taken < MOST_DIGITS; taken++) {
                int digit = takeDigit('9');
                if (digit == NONE) {
                    return number;
                }
                number = number * 10 + digit;
            }
            return number;
        }
    }
}
