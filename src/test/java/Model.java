import java.util.ArrayDeque;
import java.util.ArrayList;
import java.util.Comparator;
import java.util.Deque;
import java.util.List;
import java.util.NoSuchElementException;
import java.util.TreeMap;
import java.util.TreeSet;
import java.util.regex.Matcher;
import java.util.regex.Pattern;

/** The document once more, written with other means than the class, for tests to compare the two. */
final class Model {
    private static final String N = " [0-9][0-9]?";
    private static final String D = " [0-9]";
    private static final String COMMAND = "(?:raw|mix" + N + N + "|fill" + D + D + D + D + "|ship" + N + "|day(?:" + N
            + ")?|recall" + D + ")";
    private static final Pattern TEXT = Pattern.compile(COMMAND + "(?:;" + COMMAND + ")*");

    record Batch(TreeSet<Integer> raws, int strength) { }

    record Lot(int first, int second, int label, int jars, int pressure) { }

    /** All of the state, never changed once it is in the history. */
    static final class Things {
        final List<Boolean> faulty = new ArrayList<>();
        final List<Batch> batches = new ArrayList<>();
        final List<String> labels = new ArrayList<>();
        final TreeMap<Integer, Lot> lots = new TreeMap<>();
        int next;
        int days;
        int filled;
        int shipped;
        int recalled;
        int spoiled;

        Things copy() {
            Things c = new Things();
            c.faulty.addAll(faulty);
            c.batches.addAll(batches);
            c.labels.addAll(labels);
            c.lots.putAll(lots);
            c.next = next;
            c.days = days;
            c.filled = filled;
            c.shipped = shipped;
            c.recalled = recalled;
            c.spoiled = spoiled;
            return c;
        }
    }

    private Things now = new Things();
    private Things saved = null;
    private final Deque<Things> past = new ArrayDeque<>();
    private String buffer = "";
    private String line = "";
    private Integer errorPosition = null;
    private Integer failedCommand = null;

    private void modified(Things before) {
        past.addLast(before);
        if (past.size() > 8) {
            past.removeFirst();
        }
    }

    private interface Change {
        int on(Things things);
    }

    private int change(Change change) {
        Things copy = now.copy();
        int answer = change.on(copy);
        modified(now);
        now = copy;
        return answer;
    }

    int addRaw() {
        return change(Model::addRaw);
    }

    private static int addRaw(Things t) {
        if (t.faulty.size() == 6) {
            throw new IllegalStateException();
        }
        t.faulty.add(false);
        return t.faulty.size() - 1;
    }

    int mix(int sources, int strength) {
        return change(t -> mix(t, sources, strength));
    }

    private static int mix(Things t, int sources, int strength) {
        TreeSet<Integer> raws = new TreeSet<>();
        for (int raw = 0; raw < 32; raw++) {
            if ((sources & 1 << raw) != 0) {
                raws.add(raw);
            }
        }
        if (raws.isEmpty() || raws.last() >= t.faulty.size() || strength < 1 || strength > 20) {
            throw new IllegalArgumentException();
        }
        if (t.batches.size() == 6) {
            throw new IllegalStateException();
        }
        if (raws.stream().anyMatch(t.faulty::get)) {
            throw new UnsupportedOperationException();
        }
        t.batches.add(new Batch(raws, strength));
        return t.batches.size() - 1;
    }

    int rawCount() {
        return now.faulty.size();
    }

    int batchCount() {
        return now.batches.size();
    }

    private static void within(int index, int size) {
        if (index < 0 || index >= size) {
            throw new IndexOutOfBoundsException();
        }
    }

    boolean isFaulty(int raw) {
        within(raw, now.faulty.size());
        return now.faulty.get(raw);
    }

    int strengthOf(int batch) {
        within(batch, now.batches.size());
        return now.batches.get(batch).strength();
    }

    boolean batchContains(int batch, int raw) {
        within(batch, now.batches.size());
        within(raw, now.faulty.size());
        return now.batches.get(batch).raws().contains(raw);
    }

    int addLabel() {
        String label = buffer;
        buffer = "";
        if (!label.matches("[a-h]{1,6}")) {
            throw new IllegalArgumentException();
        }
        if (now.labels.size() == 8 || now.labels.contains(label)) {
            throw new IllegalStateException();
        }
        return change(t -> {
            t.labels.add(label);
            return t.labels.size() - 1;
        });
    }

    int labelCount() {
        return now.labels.size();
    }

    int labelLength(int label) {
        within(label, now.labels.size());
        return now.labels.get(label).length();
    }

    char labelLetter(int label, int index) {
        within(label, now.labels.size());
        within(index, now.labels.get(label).length());
        return now.labels.get(label).charAt(index);
    }

    private void scannable() {
        if (!buffer.matches("[a-h]{1,12}")) {
            throw new IllegalArgumentException();
        }
    }

    int scan() {
        scannable();
        if (now.labels.isEmpty()) {
            throw new NoSuchElementException();
        }
        int best = 0;
        for (int label = 0; label < now.labels.size(); label++) {
            if (distance(buffer, now.labels.get(label)) < distance(buffer, now.labels.get(best))) {
                best = label;
            }
        }
        return best;
    }

    int distanceTo(int label) {
        within(label, now.labels.size());
        scannable();
        return distance(buffer, now.labels.get(label));
    }

    /** The least number of steps: what is not changed is a common subsequence with replacements, column by column. */
    private static int distance(String a, String b) {
        int[] costs = new int[b.length() + 1];
        for (int j = 0; j < costs.length; j++) {
            costs[j] = j;
        }
        for (int i = 1; i <= a.length(); i++) {
            int corner = costs[0];
            costs[0] = i;
            for (int j = 1; j < costs.length; j++) {
                int old = costs[j];
                int same = a.charAt(i - 1) == b.charAt(j - 1) ? corner : corner + 1;
                costs[j] = Math.min(same, Math.min(old, costs[j - 1]) + 1);
                corner = old;
            }
        }
        return costs[b.length()];
    }

    int fill(int first, int second, int label, int jars) {
        return change(t -> fill(t, first, second, label, jars));
    }

    private static boolean bad(Things t, int batch) {
        return t.batches.get(batch).raws().stream().anyMatch(t.faulty::get);
    }

    private static int fill(Things t, int first, int second, int label, int jars) {
        within(first, t.batches.size());
        within(second, t.batches.size());
        within(label, t.labels.size());
        if (jars < 1 || jars > 9) {
            throw new IllegalArgumentException();
        }
        if (t.lots.size() == 8) {
            throw new IllegalStateException();
        }
        if (bad(t, first) || bad(t, second)) {
            throw new UnsupportedOperationException();
        }
        t.lots.put(t.next, new Lot(first, second, label, jars, 0));
        t.filled += jars;
        return t.next++;
    }

    private static Lot lot(Things t, int lot) {
        if (!t.lots.containsKey(lot)) {
            throw new NoSuchElementException();
        }
        return t.lots.get(lot);
    }

    int ship(int lot) {
        return change(t -> ship(t, lot));
    }

    private static int ship(Things t, int lot) {
        int jars = lot(t, lot).jars();
        t.lots.remove(lot);
        t.shipped += jars;
        return jars;
    }

    int pass(int days) {
        return change(t -> pass(t, days));
    }

    private static int pass(Things t, int days) {
        if (days < 1 || days > 30) {
            throw new IllegalArgumentException();
        }
        int gone = 0;
        for (int day = 0; day < days; day++) {
            t.days++;
            t.lots.replaceAll((number, l) ->
                    new Lot(l.first(), l.second(), l.label(), l.jars(), l.pressure() + 21 - strength(t, l)));
            for (int number : new ArrayList<>(t.lots.keySet())) {
                if (t.lots.get(number).pressure() >= 60) {
                    t.spoiled += t.lots.remove(number).jars();
                    gone++;
                }
            }
        }
        return gone;
    }

    int recall(int raw) {
        return change(t -> recall(t, raw));
    }

    private static int recall(Things t, int raw) {
        within(raw, t.faulty.size());
        if (t.faulty.get(raw)) {
            throw new IllegalStateException();
        }
        t.faulty.set(raw, true);
        int gone = 0;
        for (int number : new ArrayList<>(t.lots.keySet())) {
            if (raws(t, t.lots.get(number)).contains(raw)) {
                t.recalled += t.lots.remove(number).jars();
                gone++;
            }
        }
        return gone;
    }

    private static int strength(Things t, Lot lot) {
        int sum = t.batches.get(lot.first()).strength() + t.batches.get(lot.second()).strength();
        return Math.floorDiv(sum, 2);
    }

    private static TreeSet<Integer> raws(Things t, Lot lot) {
        TreeSet<Integer> raws = new TreeSet<>(t.batches.get(lot.first()).raws());
        raws.addAll(t.batches.get(lot.second()).raws());
        return raws;
    }

    int lotCount() {
        return now.lots.size();
    }

    int lotAt(int position) {
        within(position, now.lots.size());
        return new ArrayList<>(now.lots.keySet()).get(position);
    }

    int jarsOf(int lot) {
        return lot(now, lot).jars();
    }

    int labelOf(int lot) {
        return lot(now, lot).label();
    }

    int strengthOfLot(int lot) {
        return strength(now, lot(now, lot));
    }

    int pressureOf(int lot) {
        return lot(now, lot).pressure();
    }

    boolean lotContains(int lot, int raw) {
        Lot found = lot(now, lot);
        within(raw, now.faulty.size());
        return raws(now, found).contains(raw);
    }

    int daysUntilPop(int lot) {
        lot(now, lot);
        Things later = now.copy();
        int days = 0;
        while (later.lots.containsKey(lot)) {
            pass(later, 1);
            days++;
        }
        return days;
    }

    int lotByPressure(int rank) {
        List<Integer> numbers = new ArrayList<>(now.lots.keySet());
        numbers.sort(Comparator.<Integer>comparingInt(n -> -now.lots.get(n).pressure()).thenComparingInt(n -> n));
        if (rank < 0 || rank >= numbers.size()) {
            throw new NoSuchElementException();
        }
        return numbers.get(rank);
    }

    int affectedLots(int raw) {
        within(raw, now.faulty.size());
        return (int) now.lots.values().stream().filter(l -> raws(now, l).contains(raw)).count();
    }

    int leastCrates(int capacity) {
        if (capacity < 9 || capacity > 40) {
            throw new IllegalArgumentException();
        }
        List<Lot> lots = new ArrayList<>(now.lots.values());
        int[] least = new int[1 << lots.size()];
        for (int set = 1; set < least.length; set++) {
            least[set] = 99;
            for (int crate = set; crate > 0; crate = crate - 1 & set) {
                int jars = 0;
                for (int lot = 0; lot < lots.size(); lot++) {
                    jars += (crate & 1 << lot) != 0 ? lots.get(lot).jars() : 0;
                }
                if (jars <= capacity) {
                    least[set] = Math.min(least[set], least[set ^ crate] + 1);
                }
            }
        }
        return least[least.length - 1];
    }

    private TreeSet<Integer> bestTests() {
        TreeSet<Integer> best = null;
        int bestSum = 0;
        for (int sum = 0; sum < 1 << now.faulty.size(); sum++) {
            TreeSet<Integer> set = new TreeSet<>();
            for (int raw = 0; raw < now.faulty.size(); raw++) {
                if (sum / (1 << raw) % 2 == 1) {
                    set.add(raw);
                }
            }
            boolean tests = now.lots.values().stream().allMatch(l -> raws(now, l).stream().anyMatch(set::contains));
            boolean better = best == null || set.size() < best.size() || set.size() == best.size() && sum < bestSum;
            if (tests && better) {
                best = set;
                bestSum = sum;
            }
        }
        return best;
    }

    int fewestTests() {
        return bestTests().size();
    }

    boolean isTested(int raw) {
        within(raw, now.faulty.size());
        return bestTests().contains(raw);
    }

    int dayCount() {
        return now.days;
    }

    int filled() {
        return now.filled;
    }

    int stored() {
        return now.lots.values().stream().mapToInt(Lot::jars).sum();
    }

    int shipped() {
        return now.shipped;
    }

    int recalled() {
        return now.recalled;
    }

    int spoiled() {
        return now.spoiled;
    }

    double meanPressure() {
        if (now.lots.isEmpty()) {
            throw new ArithmeticException();
        }
        int sum = now.lots.values().stream().mapToInt(Lot::pressure).sum();
        return (double) sum / (double) now.lots.size();
    }

    float shippedShare() {
        if (now.filled == 0) {
            throw new ArithmeticException();
        }
        return (float) now.shipped / (float) now.filled;
    }

    int writeLot(int lot) {
        Lot found = lot(now, lot);
        line = lot + ":" + found.jars() + "x" + now.labels.get(found.label()) + "/" + found.pressure();
        return line.length();
    }

    int writeRaws() {
        TreeSet<Integer> best = bestTests();
        StringBuilder signs = new StringBuilder();
        for (int raw = 0; raw < now.faulty.size(); raw++) {
            signs.append(now.faulty.get(raw) ? "x" : best.contains(raw) ? "*" : ".");
        }
        line = signs.toString();
        return line.length();
    }

    char lineAt(int index) {
        within(index, line.length());
        return line.charAt(index);
    }

    boolean isConsistent() {
        return true;
    }

    int type(char character) {
        if (character < ' ' || character > '~') {
            throw new IllegalArgumentException();
        }
        if (buffer.length() == 60) {
            throw new IllegalStateException();
        }
        buffer += character;
        return buffer.length();
    }

    int clearText() {
        int length = buffer.length();
        buffer = "";
        return length;
    }

    private static int firstBad(String text) {
        for (int length = 1; length <= text.length(); length++) {
            Matcher matcher = TEXT.matcher(text.substring(0, length));
            if (!matcher.matches() && !matcher.hitEnd()) {
                return length - 1;
            }
        }
        return text.length();
    }

    int execute() {
        String text = buffer;
        buffer = "";
        if (!TEXT.matcher(text).matches()) {
            errorPosition = firstBad(text);
            throw new IllegalArgumentException();
        }
        String[] commands = text.split(";");
        Things copy = now.copy();
        for (int index = 0; index < commands.length; index++) {
            try {
                perform(copy, commands[index].split(" "));
            } catch (RuntimeException e) {
                failedCommand = index;
                throw new IllegalStateException();
            }
        }
        modified(now);
        now = copy;
        return commands.length;
    }

    private static void perform(Things t, String[] words) {
        int[] n = new int[4];
        for (int index = 1; index < words.length; index++) {
            n[index - 1] = Integer.parseInt(words[index]);
        }
        switch (words[0]) {
            case "raw" -> addRaw(t);
            case "mix" -> mix(t, n[0], n[1]);
            case "fill" -> fill(t, n[0], n[1], n[2], n[3]);
            case "ship" -> ship(t, n[0]);
            case "day" -> pass(t, words.length == 1 ? 1 : n[0]);
            case "recall" -> recall(t, n[0]);
            default -> throw new AssertionError(words[0]);
        }
    }

    int errorPosition() {
        if (errorPosition == null) {
            throw new NoSuchElementException();
        }
        return errorPosition;
    }

    int failedCommand() {
        if (failedCommand == null) {
            throw new NoSuchElementException();
        }
        return failedCommand;
    }

    int undo() {
        if (past.isEmpty()) {
            throw new IllegalStateException();
        }
        now = past.removeLast();
        return past.size();
    }

    int save() {
        saved = now.copy();
        return now.lots.size();
    }

    int restore() {
        if (saved == null) {
            throw new IllegalStateException();
        }
        now = saved.copy();
        past.clear();
        return now.lots.size();
    }
}
