import java.util.ArrayList;
import java.util.Arrays;
import java.util.Comparator;
import java.util.List;
import java.util.NoSuchElementException;
import java.util.regex.Pattern;

/**
 * The document once more, told another way: a table says for each key and day which version is valid,
 * and first days, ends, gaps and the versions of facts are all read off it.
 */
public final class DayModel {
    private static final int LIMIT = 60;
    private static final String ROW = "k[0-7]@[0-9]{1,3}=-?[0-9]{1,3}";
    private static final Pattern TEXT = Pattern.compile(ROW + "(," + ROW + ")*");

    private State now = new State();
    private State kept;
    private String input = "";
    private Integer error;
    private int anew;

    private static final class State {
        final int[][] table = new int[8][1000];
        final List<int[]> versions = new ArrayList<>();
        final List<int[]> facts = new ArrayList<>();
        List<int[]> rows = new ArrayList<>();

        State() {
            for (int[] days : table) {
                Arrays.fill(days, -1);
            }
        }

        State copy() {
            State copy = new State();
            for (int key = 0; key < 8; key++) {
                copy.table[key] = table[key].clone();
            }
            versions.forEach(version -> copy.versions.add(version.clone()));
            facts.forEach(fact -> copy.facts.add(fact.clone()));
            rows.forEach(row -> copy.rows.add(row.clone()));
            return copy;
        }

        /** Versions are held as key, value, and 1 if inferred. */
        int make(int key, int value, int inferred) {
            if (versions.size() == LIMIT) {
                throw new IllegalStateException();
            }
            versions.add(new int[] {key, value, inferred});
            return versions.size() - 1;
        }

        int[] daysOf(int version) {
            int key = versions.get(version)[0];
            int first = -1;
            int end = -1;
            for (int day = 0; day < 1000; day++) {
                if (table[key][day] == version) {
                    first = first < 0 ? day : first;
                    end = day + 1;
                }
            }
            return new int[] {first, end};
        }

        boolean has(int version) {
            return version >= 0 && version < versions.size() && daysOf(version)[0] >= 0;
        }

        int[] order(int key) {
            return Arrays.stream(table[key]).filter(version -> version >= 0).distinct().toArray();
        }

        void paint(int key, int from, int end, int version) {
            Arrays.fill(table[key], from, end, version);
        }

        int gapEnd(int key, int day) {
            int end = day;
            while (end < 1000 && table[key][end] < 0) {
                end++;
            }
            return end;
        }

        int change(int key, int day, int value) {
            int valid = table[key][day];
            if (valid < 0) {
                int end = gapEnd(key, day);
                boolean takesNext = end < 1000 && versions.get(table[key][end])[2] == 1;
                int version = takesNext ? table[key][end] : make(key, value, 0);
                paint(key, day, end, version);
                return settle(version, value);
            }
            int[] days = daysOf(valid);
            if (days[0] == day) {
                return settle(valid, value);
            }
            if (versions.get(valid)[2] == 0 && versions.get(valid)[1] == value) {
                return valid;
            }
            int version = make(key, value, 0);
            paint(key, day, days[1], version);
            return version;
        }

        int settle(int version, int value) {
            versions.get(version)[1] = value;
            versions.get(version)[2] = 0;
            return version;
        }

        int target(int fact) {
            return table[facts.get(fact)[0]][facts.get(fact)[1]];
        }

        int[] targets() {
            int[] targets = new int[facts.size()];
            Arrays.setAll(targets, this::target);
            return targets;
        }

        List<int[]> gapsOf(int key) {
            List<int[]> gaps = new ArrayList<>();
            boolean hasBegun = false;
            for (int day = 0; day < 1000; day++) {
                if (table[key][day] >= 0) {
                    hasBegun = true;
                } else if (hasBegun) {
                    int end = gapEnd(key, day);
                    gaps.add(new int[] {day, end - 1});
                    day = end - 1;
                }
            }
            return gaps;
        }
    }

    private static void key(int key) {
        if (key < 0 || key > 7) {
            throw new IndexOutOfBoundsException();
        }
    }

    private static void argument(boolean isGood) {
        if (!isGood) {
            throw new IllegalArgumentException();
        }
    }

    private static void state(boolean isGood) {
        if (!isGood) {
            throw new IllegalStateException();
        }
    }

    private static void element(boolean isThere) {
        if (!isThere) {
            throw new NoSuchElementException();
        }
    }

    private static boolean isDay(int day) {
        return 0 <= day && day <= 999;
    }

    private void present(int version) {
        if (!now.has(version)) {
            throw new IndexOutOfBoundsException();
        }
    }

    private void compare(int[] before) {
        anew = 0;
        for (int fact = 0; fact < before.length; fact++) {
            anew += now.target(fact) == before[fact] ? 0 : 1;
        }
    }

    public int change(int key, int day, int value) {
        key(key);
        argument(isDay(day));
        int[] before = now.targets();
        int version = now.change(key, day, value);
        compare(before);
        return version;
    }

    public int addFact(int key, int day, int amount) {
        key(key);
        argument(isDay(day));
        state(now.facts.size() < 60);
        int[] before = now.targets();
        if (now.table[key][day] < 0) {
            int end = now.gapEnd(key, day);
            boolean takesNext = end < 1000 && now.versions.get(now.table[key][end])[2] == 1;
            now.paint(key, day, end, takesNext ? now.table[key][end] : now.make(key, 0, 1));
        }
        now.facts.add(new int[] {key, day, amount});
        compare(before);
        return now.table[key][day];
    }

    public int close(int key, int day) {
        key(key);
        argument(isDay(day));
        int version = now.table[key][day];
        element(version >= 0);
        int[] days = now.daysOf(version);
        state(days[0] < day);
        for (int fact = 0; fact < now.facts.size(); fact++) {
            state(now.target(fact) != version || now.facts.get(fact)[1] < day);
        }
        int[] before = now.targets();
        now.paint(key, day, days[1], -1);
        compare(before);
        return days[1];
    }

    public int correct(int version, int value) {
        present(version);
        int previous = now.versions.get(version)[1];
        now.settle(version, value);
        return previous;
    }

    public int remove(int version) {
        present(version);
        int key = now.versions.get(version)[0];
        int[] days = now.daysOf(version);
        int heir = days[0] == 0 ? -1 : now.table[key][days[0] - 1];
        int facts = version(version, 4);
        state(facts == 0 || heir >= 0);
        int[] before = now.targets();
        now.paint(key, days[0], days[1], heir);
        compare(before);
        return facts;
    }

    public int join(int key) {
        key(key);
        int[] before = now.targets();
        int joined = 0;
        for (int day = 1; day < 1000; day++) {
            int left = now.table[key][day - 1];
            int right = now.table[key][day];
            if (left >= 0 && right >= 0 && left != right
                    && Arrays.equals(now.versions.get(left), now.versions.get(right))
                    && now.versions.get(left)[2] == 0) {
                now.paint(key, day, now.daysOf(right)[1], left);
                joined++;
            }
        }
        compare(before);
        return joined;
    }

    public int clear() {
        int count = versionCount();
        now = new State();
        anew = 0;
        return count;
    }

    public int versionCount() {
        int count = 0;
        for (int key = 0; key < 8; key++) {
            count += now.order(key).length;
        }
        return count;
    }

    public int versionsOf(int key) {
        key(key);
        return now.order(key).length;
    }

    public int versionAt(int key, int index) {
        key(key);
        int[] order = now.order(key);
        element(0 <= index && index < order.length);
        return order[index];
    }

    public int validOn(int key, int day) {
        key(key);
        argument(isDay(day));
        element(now.table[key][day] >= 0);
        return now.table[key][day];
    }

    public int nextAfter(int key, int day) {
        key(key);
        argument(isDay(day));
        for (int version : now.order(key)) {
            if (now.daysOf(version)[0] > day) {
                return version;
            }
        }
        throw new NoSuchElementException();
    }

    public int version(int version, int what) {
        present(version);
        argument(0 <= what && what <= 5);
        int[] days = now.daysOf(version);
        int facts = (int) Arrays.stream(now.targets()).filter(target -> target == version).count();
        int[] held = now.versions.get(version);
        return new int[] {held[0], days[0], days[1], held[1], facts, days[1] - days[0]}[what];
    }

    public boolean isInferred(int version) {
        present(version);
        return now.versions.get(version)[2] == 1;
    }

    public int firstInferred() {
        for (int day = 0; day < 1000; day++) {
            for (int key = 0; key < 8; key++) {
                int version = now.table[key][day];
                if (version >= 0 && now.versions.get(version)[2] == 1) {
                    return version;
                }
            }
        }
        throw new NoSuchElementException();
    }

    public int inferredCount() {
        int count = 0;
        for (int version = 0; version < now.versions.size(); version++) {
            count += now.has(version) && now.versions.get(version)[2] == 1 ? 1 : 0;
        }
        return count;
    }

    public int removedCount() {
        int count = 0;
        for (int version = 0; version < now.versions.size(); version++) {
            count += now.has(version) ? 0 : 1;
        }
        return count;
    }

    public int factCount() {
        return now.facts.size();
    }

    public int fact(int fact, int what) {
        if (fact < 0 || fact >= now.facts.size()) {
            throw new IndexOutOfBoundsException();
        }
        argument(0 <= what && what <= 4);
        int target = now.target(fact);
        return what < 3 ? now.facts.get(fact)[what] : what == 3 ? target : now.versions.get(target)[1];
    }

    public long amountOf(int version) {
        present(version);
        long sum = 0;
        for (int fact = 0; fact < now.facts.size(); fact++) {
            sum += now.target(fact) == version ? now.facts.get(fact)[2] : 0;
        }
        return sum;
    }

    public long amountFor(int key, int value) {
        key(key);
        long sum = 0;
        for (int fact = 0; fact < now.facts.size(); fact++) {
            boolean counts = now.facts.get(fact)[0] == key && fact(fact, 4) == value;
            sum += counts ? now.facts.get(fact)[2] : 0;
        }
        return sum;
    }

    public int pointedAnew() {
        return anew;
    }

    public int gaps(int key) {
        key(key);
        return now.gapsOf(key).size();
    }

    public int gapDay(int key, int gap, boolean isLast) {
        key(key);
        List<int[]> gaps = now.gapsOf(key);
        element(0 <= gap && gap < gaps.size());
        return gaps.get(gap)[isLast ? 1 : 0];
    }

    public int gapDays() {
        int sum = 0;
        for (int key = 0; key < 8; key++) {
            for (int[] gap : now.gapsOf(key)) {
                sum += gap[1] - gap[0] + 1;
            }
        }
        return sum;
    }

    public double coverage(int key) {
        key(key);
        int first = 0;
        int valid = 0;
        for (int day = 999; day >= 0; day--) {
            if (now.table[key][day] >= 0) {
                first = day;
                valid++;
            }
        }
        if (valid == 0) {
            throw new ArithmeticException();
        }
        return (double) valid / (double) (1000 - first);
    }

    public boolean isCovered(int key, int from, int to) {
        key(key);
        argument(isDay(from) && isDay(to));
        for (int day = from; day <= to; day++) {
            if (now.table[key][day] < 0) {
                return false;
            }
        }
        return true;
    }

    public int stage(int key, int day, int value) {
        key(key);
        argument(isDay(day));
        state(now.rows.size() < 20);
        now.rows.add(new int[] {key, day, value});
        now.rows.sort(Comparator.comparingInt((int[] row) -> row[1]).thenComparingInt(row -> row[0]));
        return now.rows.size();
    }

    public int staged() {
        return now.rows.size();
    }

    public int nextRow(int what) {
        argument(0 <= what && what <= 2);
        element(!now.rows.isEmpty());
        return now.rows.get(0)[what];
    }

    public int loadRows(int limit) {
        argument(1 <= limit && limit <= 20);
        State tried = now.copy();
        int count = Math.min(limit, now.rows.size());
        tried.rows = tried.rows.subList(count, tried.rows.size());
        for (int row = 0; row < count; row++) {
            tried.change(now.rows.get(row)[0], now.rows.get(row)[1], now.rows.get(row)[2]);
        }
        int[] before = now.targets();
        now = tried.copy();
        compare(before);
        return count;
    }

    public int append(char character) {
        argument(character >= ' ' && character <= '~');
        state(input.length() < 30);
        input += character;
        return input.length();
    }

    public int read() {
        String text = input;
        input = "";
        if (!TEXT.matcher(text).matches()) {
            error = errorIn(text);
            throw new IllegalArgumentException();
        }
        State tried = now.copy();
        String[] rows = text.split(",");
        for (String row : rows) {
            String[] numbers = row.substring(1).split("[@=]");
            tried.change(Integer.parseInt(numbers[0]), Integer.parseInt(numbers[1]), Integer.parseInt(numbers[2]));
        }
        int[] before = now.targets();
        now = tried;
        compare(before);
        return rows.length;
    }

    /** A beginning of a text can be completed by one of these few endings, or by none. */
    private static int errorIn(String text) {
        String[] endings = {"", "k0@1=1", "0@1=1", "@1=1", "1=1", "=1", "1"};
        for (int k = 0; k < text.length(); k++) {
            String beginning = text.substring(0, k + 1);
            if (Arrays.stream(endings).noneMatch(ending -> TEXT.matcher(beginning + ending).matches())) {
                return k;
            }
        }
        return text.length();
    }

    public int errorPosition() {
        element(error != null);
        return error;
    }

    public int save() {
        kept = now.copy();
        return versionCount();
    }

    public int restore() {
        state(kept != null);
        now = kept.copy();
        anew = 0;
        return versionCount();
    }
}
