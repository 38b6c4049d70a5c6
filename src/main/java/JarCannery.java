import java.util.NoSuchElementException;

/** A cannery, from raw lots over batches and jars to recalls; DOC.md says what each call promises. */
public final class JarCannery {
    private static final int MOST_RAWS = 6;
    private static final int MOST_BATCHES = 6;
    private static final int MOST_STRENGTH = 20;
    private static final int MOST_LABELS = 8;
    private static final int LABEL_LETTERS = 6;
    private static final int SCANNED_LETTERS = 12;
    private static final int MOST_LOTS = 8;
    private static final int MOST_JARS = 9;
    private static final int MOST_DAYS = 30;
    private static final int POP_PRESSURE = 60;
    private static final int LEAST_CAPACITY = 9;
    private static final int MOST_CAPACITY = 40;
    private static final int BUFFER_LENGTH = 60;
    private static final int UNDO_STEPS = 8;

    // Why a call is refused, as a number: execute has to ask for it without an exception on the way.
    private static final int ALLOWED = 0;
    private static final int NO_SUCH_INDEX = 1;
    private static final int BAD_ARGUMENT = 2;
    private static final int BAD_STATE = 3;
    private static final int UNSUPPORTED = 4;
    private static final int NO_SUCH_ELEMENT = 5;

    private static final int NONE = -1;

    private final State state = new State();
    private final State before = new State();
    private final State snapshot = new State();
    private final History history = new History();
    private final Text text = new Text(BUFFER_LENGTH);
    private final Text line = new Text(BUFFER_LENGTH);
    private final Text word = new Text(LABEL_LETTERS);
    private final CommandText commands = new CommandText();
    private final Distances distances = new Distances();
    private final Crates crates = new Crates();
    private boolean hasSnapshot = false;
    private int lastErrorPosition = NONE;
    private int lastFailedCommand = NONE;

    public JarCannery() {
    }

    // Raw lots and batches

    public int addRaw() throws IllegalStateException {
        demandAllowed(state.rawRefusal());
        history.keep(state);
        return state.brine.addOneRaw();
    }

    public int mix(int sources, int strength)
            throws IllegalArgumentException, IllegalStateException, UnsupportedOperationException {
        demandAllowed(state.mixRefusal(sources, strength));
        history.keep(state);
        return state.brine.addBatch(sources, strength);
    }

    public int rawCount() {
        return state.brine.raws;
    }

    public int batchCount() {
        return state.brine.batches;
    }

    public boolean isFaulty(int raw) throws IndexOutOfBoundsException {
        demandRaw(raw);
        return state.brine.isRawFaulty(raw);
    }

    public int strengthOf(int batch) throws IndexOutOfBoundsException {
        demandBatch(batch);
        return state.brine.strengths.get(batch);
    }

    public boolean batchContains(int batch, int raw) throws IndexOutOfBoundsException {
        demandBatch(batch);
        demandRaw(raw);
        return setHas(state.brine.sources.get(batch), raw);
    }

    // Labels

    public int addLabel() throws IllegalArgumentException, IllegalStateException {
        int refusal = state.labelRefusal(text);
        if (refusal == ALLOWED) {
            history.keep(state);
            state.labels.addFrom(text);
        }
        text.clear();
        demandAllowed(refusal);
        return state.labels.count - 1;
    }

    public int labelCount() {
        return state.labels.count;
    }

    public int labelLength(int label) throws IndexOutOfBoundsException {
        demandLabel(label);
        return state.labels.lengths.get(label);
    }

    public char labelLetter(int label, int index) throws IndexOutOfBoundsException {
        demandLabel(label);
        if (index < 0 || index >= state.labels.lengths.get(label)) {
            throw new IndexOutOfBoundsException("no such letter");
        }
        return state.labels.letter(label, index);
    }

    public int scan() throws IllegalArgumentException, NoSuchElementException {
        demandScannedText();
        if (state.labels.count == 0) {
            throw new NoSuchElementException("no labels");
        }
        int nearest = 0;
        int least = tableDistance(0);
        for (int label = 1; label < state.labels.count; label++) {
            int distance = tableDistance(label);
            if (distance < least) {
                least = distance;
                nearest = label;
            }
        }
        return nearest;
    }

    public int distanceTo(int label) throws IndexOutOfBoundsException, IllegalArgumentException {
        demandLabel(label);
        demandScannedText();
        return tableDistance(label);
    }

    public int distanceByLetters(int label) throws IndexOutOfBoundsException, IllegalArgumentException {
        demandLabel(label);
        demandScannedText();
        takeWord(label);
        return distances.byLetters(text, word);
    }

    // Jar lots

    public int fill(int first, int second, int label, int jars)
            throws IndexOutOfBoundsException, IllegalArgumentException, IllegalStateException,
            UnsupportedOperationException {
        demandAllowed(state.fillRefusal(first, second, label, jars));
        history.keep(state);
        return state.fillLot(first, second, label, jars);
    }

    public int ship(int lot) throws NoSuchElementException {
        demandAllowed(state.shipRefusal(lot));
        history.keep(state);
        return state.shipLot(lot);
    }

    public int pass(int days) throws IllegalArgumentException {
        demandAllowed(state.passRefusal(days));
        history.keep(state);
        return state.passDays(days);
    }

    public int recall(int raw) throws IndexOutOfBoundsException, IllegalStateException {
        demandAllowed(state.recallRefusal(raw));
        history.keep(state);
        return state.recallRaw(raw);
    }

    public int lotCount() {
        return state.lots.count;
    }

    public int lotAt(int position) throws IndexOutOfBoundsException {
        if (position < 0 || position >= state.lots.count) {
            throw new IndexOutOfBoundsException("no such position");
        }
        return state.lots.numbers.get(position);
    }

    public int jarsOf(int lot) throws NoSuchElementException {
        return state.lots.jars.get(demandLot(lot));
    }

    public int labelOf(int lot) throws NoSuchElementException {
        return state.lots.labels.get(demandLot(lot));
    }

    public int strengthOfLot(int lot) throws NoSuchElementException {
        return state.strengthAt(demandLot(lot));
    }

    public int pressureOf(int lot) throws NoSuchElementException {
        return state.lots.pressures.get(demandLot(lot));
    }

    public boolean lotContains(int lot, int raw) throws NoSuchElementException, IndexOutOfBoundsException {
        int position = demandLot(lot);
        demandRaw(raw);
        return setHas(state.rawsAt(position), raw);
    }

    public int daysUntilPop(int lot) throws NoSuchElementException {
        return state.daysDayByDay(demandLot(lot));
    }

    public int daysByDivision(int lot) throws NoSuchElementException {
        return state.daysDivided(demandLot(lot));
    }

    public int lotByPressure(int rank) throws NoSuchElementException {
        int position = state.lots.positionOfRank(rank);
        if (position == NONE) {
            throw new NoSuchElementException("no such rank");
        }
        return state.lots.numbers.get(position);
    }

    // Recalls, crates and tests

    public int affectedLots(int raw) throws IndexOutOfBoundsException {
        demandRaw(raw);
        return state.countThroughBatches(raw);
    }

    public int affectedBySets(int raw) throws IndexOutOfBoundsException {
        demandRaw(raw);
        return state.countFromSets(raw);
    }

    public int leastCrates(int capacity) throws IllegalArgumentException {
        demandCapacity(capacity);
        return crates.leastBySets(state.lots, capacity);
    }

    public int leastCratesByTrial(int capacity) throws IllegalArgumentException {
        demandCapacity(capacity);
        return crates.leastByTrial(state.lots, capacity);
    }

    public int fewestTests() {
        return Integer.bitCount(TestSets.best(state));
    }

    public int fewestTestsByBranching() {
        return TestSets.fewestByBranching(state);
    }

    public boolean isTested(int raw) throws IndexOutOfBoundsException {
        demandRaw(raw);
        return setHas(TestSets.best(state), raw);
    }

    // Accounts

    public int dayCount() {
        return state.days;
    }

    public int filled() {
        return state.filledJars;
    }

    public int stored() {
        return state.lots.sumOf(state.lots.jars);
    }

    public int shipped() {
        return state.shippedJars;
    }

    public int recalled() {
        return state.recalledJars;
    }

    public int spoiled() {
        return state.spoiledJars;
    }

    public double meanPressure() throws ArithmeticException {
        int count = state.lots.count;
        if (count == 0) {
            throw new ArithmeticException("no jar lot is stored");
        }
        return (double) state.lots.sumOf(state.lots.pressures) / (double) count;
    }

    public float shippedShare() throws ArithmeticException {
        if (state.filledJars == 0) {
            throw new ArithmeticException("no jars were filled");
        }
        return (float) state.shippedJars / (float) state.filledJars;
    }

    // Lines and checks

    public int writeLot(int lot) throws NoSuchElementException {
        int position = demandLot(lot);
        line.clear();
        line.addNumber(lot);
        line.add(':');
        line.addNumber(state.lots.jars.get(position));
        line.add('x');
        state.labels.appendTo(state.lots.labels.get(position), line);
        line.add('/');
        line.addNumber(state.lots.pressures.get(position));
        return line.length;
    }

    public int writeRaws() {
        int best = TestSets.best(state);
        line.clear();
        for (int raw = 0; raw < state.brine.raws; raw++) {
            line.add(signOfRaw(raw, best));
        }
        return line.length;
    }

    public char lineAt(int index) throws IndexOutOfBoundsException {
        if (index < 0 || index >= line.length) {
            throw new IndexOutOfBoundsException("no such character");
        }
        return line.at(index);
    }

    public boolean isConsistent() {
        return recallsAgree() && popsAgree() && cratesAgree(LEAST_CAPACITY) && cratesAgree(20)
                && Integer.bitCount(TestSets.best(state)) == TestSets.fewestByBranching(state) && accountsAgree();
    }

    // Text, undo and snapshots

    public int type(char character) throws IllegalArgumentException, IllegalStateException {
        if (character < 32 || character > 126) {
            throw new IllegalArgumentException("not a character for the buffer");
        }
        if (text.length >= BUFFER_LENGTH) {
            throw new IllegalStateException("the buffer is full");
        }
        text.add(character);
        return text.length;
    }

    public int clearText() {
        int length = text.length;
        text.clear();
        return length;
    }

    public int execute() throws IllegalArgumentException, IllegalStateException {
        boolean valid = commands.read(text);
        text.clear();
        if (!valid) {
            lastErrorPosition = commands.position;
            throw new IllegalArgumentException("the text is malformed");
        }
        int failed = performAll();
        if (failed != NONE) {
            lastFailedCommand = failed;
            throw new IllegalStateException("a command fails");
        }
        return commands.count;
    }

    public int errorPosition() throws NoSuchElementException {
        if (lastErrorPosition == NONE) {
            throw new NoSuchElementException("no text was malformed");
        }
        return lastErrorPosition;
    }

    public int failedCommand() throws NoSuchElementException {
        if (lastFailedCommand == NONE) {
            throw new NoSuchElementException("no command failed");
        }
        return lastFailedCommand;
    }

    public int undo() throws IllegalStateException {
        if (history.count == 0) {
            throw new IllegalStateException("nothing can be undone");
        }
        history.takeBack(state);
        return history.count;
    }

    public int save() {
        snapshot.copyFrom(state);
        hasSnapshot = true;
        return state.lots.count;
    }

    public int restore() throws IllegalStateException {
        if (!hasSnapshot) {
            throw new IllegalStateException("no snapshot");
        }
        state.copyFrom(snapshot);
        history.forget();
        return state.lots.count;
    }

    // What the calls above share

    private static boolean setHas(int set, int number) {
        return (set >> number & 1) == 1;
    }

    private static void demandAllowed(int refusal) {
        switch (refusal) {
            case NO_SUCH_INDEX:
                throw new IndexOutOfBoundsException("no such number");
            case BAD_ARGUMENT:
                throw new IllegalArgumentException("not a valid argument");
            case BAD_STATE:
                throw new IllegalStateException("not possible now");
            case UNSUPPORTED:
                throw new UnsupportedOperationException("a raw lot is faulty");
            case NO_SUCH_ELEMENT:
                throw new NoSuchElementException("no such jar lot");
            default:
                break;
        }
    }

    private void demandRaw(int raw) {
        if (!state.brine.hasRaw(raw)) {
            throw new IndexOutOfBoundsException("no such raw lot");
        }
    }

    private void demandBatch(int batch) {
        if (!state.brine.hasBatch(batch)) {
            throw new IndexOutOfBoundsException("no such batch");
        }
    }

    private void demandLabel(int label) {
        if (!state.labels.has(label)) {
            throw new IndexOutOfBoundsException("no such label");
        }
    }

    private int demandLot(int lot) {
        int position = state.lots.positionOf(lot);
        if (position == NONE) {
            throw new NoSuchElementException("no such jar lot");
        }
        return position;
    }

    private void demandScannedText() {
        if (!text.isLetters(SCANNED_LETTERS)) {
            throw new IllegalArgumentException("the text cannot be scanned");
        }
    }

    private static void demandCapacity(int capacity) {
        if (capacity < LEAST_CAPACITY || capacity > MOST_CAPACITY) {
            throw new IllegalArgumentException("capacity out of range");
        }
    }

    private void takeWord(int label) {
        word.clear();
        state.labels.appendTo(label, word);
    }

    private int tableDistance(int label) {
        takeWord(label);
        return distances.byTable(text, word);
    }

    private char signOfRaw(int raw, int best) {
        if (state.brine.isRawFaulty(raw)) {
            return 'x';
        }
        return setHas(best, raw) ? '*' : '.';
    }

    private boolean recallsAgree() {
        for (int raw = 0; raw < state.brine.raws; raw++) {
            if (state.countThroughBatches(raw) != state.countFromSets(raw)) {
                return false;
            }
        }
        return true;
    }

    private boolean popsAgree() {
        for (int position = 0; position < state.lots.count; position++) {
            if (state.daysDayByDay(position) != state.daysDivided(position)) {
                return false;
            }
        }
        return true;
    }

    private boolean cratesAgree(int capacity) {
        return crates.leastBySets(state.lots, capacity) == crates.leastByTrial(state.lots, capacity);
    }

    private boolean accountsAgree() {
        int gone = state.shippedJars + state.recalledJars + state.spoiledJars;
        return state.filledJars == state.lots.sumOf(state.lots.jars) + gone;
    }

    /** Performs all commands or none, and answers the index of the one that fails, or NONE. */
    private int performAll() {
        before.copyFrom(state);
        for (int command = 0; command < commands.count; command++) {
            if (refusalOf(command) != ALLOWED) {
                state.copyFrom(before);
                return command;
            }
            perform(command);
        }
        history.keep(before);
        return NONE;
    }

    private int refusalOf(int command) {
        int first = commands.argument(command, 0);
        int second = commands.argument(command, 1);
        switch (commands.kinds.get(command)) {
            case CommandText.RAW:
                return state.rawRefusal();
            case CommandText.MIX:
                return state.mixRefusal(first, second);
            case CommandText.FILL:
                return state.fillRefusal(first, second, commands.argument(command, 2), commands.argument(command, 3));
            case CommandText.SHIP:
                return state.shipRefusal(first);
            case CommandText.DAY:
                return state.passRefusal(first);
            default:
                return state.recallRefusal(first);
        }
    }

    private void perform(int command) {
        int first = commands.argument(command, 0);
        int second = commands.argument(command, 1);
        switch (commands.kinds.get(command)) {
            case CommandText.RAW:
                state.brine.addOneRaw();
                break;
            case CommandText.MIX:
                state.brine.addBatch(first, second);
                break;
            case CommandText.FILL:
                state.fillLot(first, second, commands.argument(command, 2), commands.argument(command, 3));
                break;
            case CommandText.SHIP:
                state.shipLot(first);
                break;
            case CommandText.DAY:
                state.passDays(first);
                break;
            default:
                state.recallRaw(first);
                break;
        }
    }

    /** Numbers in a row; a place outside of it reads as 0 and takes nothing, so that no index can fail. */
    private static final class Row {
        private final int[] cells;

        Row(int length) {
            cells = new int[Math.max(length, 0)];
        }

        int get(int place) {
            return place >= 0 && place < cells.length ? cells[place] : 0;
        }

        void set(int place, int value) {
            if (place >= 0 && place < cells.length) {
                cells[place] = value;
            }
        }

        void setAll(int value) {
            for (int place = 0; place < cells.length; place++) {
                cells[place] = value;
            }
        }

        void closeGap(int gap) {
            for (int place = Math.max(gap, 0); place < cells.length - 1; place++) {
                cells[place] = cells[place + 1];
            }
        }

        void copyFrom(Row other) {
            System.arraycopy(other.cells, 0, cells, 0, Math.min(other.cells.length, cells.length));
        }
    }

    /** Characters up to a capacity: the text buffer, the line, and a label that is being compared. */
    private static final class Text {
        // No buffer holds it, so that a look past the end matches nothing.
        private static final char NO_CHARACTER = 0;

        private final int capacity;
        private final Row characters;
        private int length = 0;

        Text(int capacity) {
            this.capacity = capacity;
            this.characters = new Row(capacity);
        }

        char at(int index) {
            return index >= 0 && index < length ? (char) characters.get(index) : NO_CHARACTER;
        }

        void clear() {
            length = 0;
        }

        void add(char character) {
            if (length < capacity) {
                characters.set(length, character);
                length++;
            }
        }

        void addNumber(int number) {
            boolean begun = false;
            for (int unit = 1000000000; unit > 0; unit /= 10) {
                int digit = number / unit % 10;
                begun = begun || digit > 0 || unit == 1;
                if (begun) {
                    add((char) ('0' + digit));
                }
            }
        }

        void copyFrom(Text other) {
            characters.copyFrom(other.characters);
            length = Math.min(other.length, capacity);
        }

        boolean isLetters(int most) {
            for (int index = 0; index < length; index++) {
                if (at(index) < 'a' || at(index) > 'h') {
                    return false;
                }
            }
            return length >= 1 && length <= most;
        }
    }

    /** The raw lots and the batches that are mixed of them. */
    private static final class Brine {
        private final Row sources = new Row(MOST_BATCHES);
        private final Row strengths = new Row(MOST_BATCHES);
        private int raws = 0;
        private int faulty = 0;
        private int batches = 0;

        boolean hasRaw(int raw) {
            return raw >= 0 && raw < raws;
        }

        boolean hasBatch(int batch) {
            return batch >= 0 && batch < batches;
        }

        boolean hasSet(int set) {
            return set > 0 && set >> raws == 0;
        }

        boolean isRawFaulty(int raw) {
            return setHas(faulty, raw);
        }

        boolean isSpoilt(int batch) {
            return (sources.get(batch) & faulty) != 0;
        }

        int addOneRaw() {
            raws++;
            return raws - 1;
        }

        int addBatch(int set, int strength) {
            sources.set(batches, set);
            strengths.set(batches, strength);
            batches++;
            return batches - 1;
        }

        void markFaulty(int raw) {
            faulty |= 1 << raw;
        }

        void copyFrom(Brine other) {
            sources.copyFrom(other.sources);
            strengths.copyFrom(other.strengths);
            raws = other.raws;
            faulty = other.faulty;
            batches = other.batches;
        }
    }

    /** The labels, each with its letters in a stretch of its own. */
    private static final class Labels {
        private final Row lengths = new Row(MOST_LABELS);
        private final Row letters = new Row(MOST_LABELS * LABEL_LETTERS);
        private int count = 0;

        boolean has(int label) {
            return label >= 0 && label < count;
        }

        char letter(int label, int index) {
            return (char) letters.get(label * LABEL_LETTERS + index);
        }

        boolean holds(Text text) {
            for (int label = 0; label < count; label++) {
                if (isSame(label, text)) {
                    return true;
                }
            }
            return false;
        }

        private boolean isSame(int label, Text text) {
            for (int index = 0; index < lengths.get(label); index++) {
                if (letter(label, index) != text.at(index)) {
                    return false;
                }
            }
            return lengths.get(label) == text.length;
        }

        void addFrom(Text text) {
            lengths.set(count, text.length);
            for (int index = 0; index < LABEL_LETTERS; index++) {
                letters.set(count * LABEL_LETTERS + index, text.at(index));
            }
            count++;
        }

        void appendTo(int label, Text target) {
            for (int index = 0; index < lengths.get(label); index++) {
                target.add(letter(label, index));
            }
        }

        void copyFrom(Labels other) {
            lengths.copyFrom(other.lengths);
            letters.copyFrom(other.letters);
            count = other.count;
        }
    }

    /** The stored jar lots by position, in the order of their numbers. */
    private static final class JarLots {
        private final Row numbers = new Row(MOST_LOTS);
        private final Row firsts = new Row(MOST_LOTS);
        private final Row seconds = new Row(MOST_LOTS);
        private final Row labels = new Row(MOST_LOTS);
        private final Row jars = new Row(MOST_LOTS);
        private final Row pressures = new Row(MOST_LOTS);
        private int count = 0;
        private int next = 0;

        int positionOf(int number) {
            for (int position = 0; position < count; position++) {
                if (numbers.get(position) == number) {
                    return position;
                }
            }
            return NONE;
        }

        int positionOfRank(int rank) {
            for (int position = 0; position < count; position++) {
                if (rankOf(position) == rank) {
                    return position;
                }
            }
            return NONE;
        }

        private int rankOf(int position) {
            int pressure = pressures.get(position);
            int rank = 0;
            for (int other = 0; other < count; other++) {
                int gap = pressures.get(other) - pressure;
                if (gap > 0 || gap == 0 && other < position) {
                    rank++;
                }
            }
            return rank;
        }

        int sumOf(Row row) {
            int sum = 0;
            for (int position = 0; position < count; position++) {
                sum += row.get(position);
            }
            return sum;
        }

        int add(int first, int second, int label, int jarCount) {
            numbers.set(count, next);
            firsts.set(count, first);
            seconds.set(count, second);
            labels.set(count, label);
            jars.set(count, jarCount);
            pressures.set(count, 0);
            count++;
            next++;
            return next - 1;
        }

        /** Takes a lot out and answers its jars. */
        int remove(int position) {
            int gone = jars.get(position);
            numbers.closeGap(position);
            firsts.closeGap(position);
            seconds.closeGap(position);
            labels.closeGap(position);
            jars.closeGap(position);
            pressures.closeGap(position);
            count--;
            return gone;
        }

        void copyFrom(JarLots other) {
            numbers.copyFrom(other.numbers);
            firsts.copyFrom(other.firsts);
            seconds.copyFrom(other.seconds);
            labels.copyFrom(other.labels);
            jars.copyFrom(other.jars);
            pressures.copyFrom(other.pressures);
            count = other.count;
            next = other.next;
        }
    }

    /** All that is undone, saved and restored. Each change has a refusal, which is asked for first. */
    private static final class State {
        private final Brine brine = new Brine();
        private final Labels labels = new Labels();
        private final JarLots lots = new JarLots();
        private int days = 0;
        private int filledJars = 0;
        private int shippedJars = 0;
        private int recalledJars = 0;
        private int spoiledJars = 0;

        int rawRefusal() {
            return brine.raws >= MOST_RAWS ? BAD_STATE : ALLOWED;
        }

        int mixRefusal(int sources, int strength) {
            if (!brine.hasSet(sources) || strength < 1 || strength > MOST_STRENGTH) {
                return BAD_ARGUMENT;
            }
            if (brine.batches >= MOST_BATCHES) {
                return BAD_STATE;
            }
            return (sources & brine.faulty) != 0 ? UNSUPPORTED : ALLOWED;
        }

        int labelRefusal(Text text) {
            if (!text.isLetters(LABEL_LETTERS)) {
                return BAD_ARGUMENT;
            }
            return labels.count >= MOST_LABELS || labels.holds(text) ? BAD_STATE : ALLOWED;
        }

        int fillRefusal(int first, int second, int label, int jars) {
            if (!brine.hasBatch(first) || !brine.hasBatch(second) || !labels.has(label)) {
                return NO_SUCH_INDEX;
            }
            if (jars < 1 || jars > MOST_JARS) {
                return BAD_ARGUMENT;
            }
            if (lots.count >= MOST_LOTS) {
                return BAD_STATE;
            }
            return brine.isSpoilt(first) || brine.isSpoilt(second) ? UNSUPPORTED : ALLOWED;
        }

        int fillLot(int first, int second, int label, int jars) {
            filledJars += jars;
            return lots.add(first, second, label, jars);
        }

        int shipRefusal(int lot) {
            return lots.positionOf(lot) == NONE ? NO_SUCH_ELEMENT : ALLOWED;
        }

        int shipLot(int lot) {
            int jars = lots.remove(lots.positionOf(lot));
            shippedJars += jars;
            return jars;
        }

        int passRefusal(int number) {
            return number < 1 || number > MOST_DAYS ? BAD_ARGUMENT : ALLOWED;
        }

        int passDays(int number) {
            int popped = 0;
            for (int day = 0; day < number; day++) {
                popped += passOneDay();
            }
            return popped;
        }

        private int passOneDay() {
            int popped = 0;
            days++;
            // From the end, so that a removal does not move the lots that are still to be looked at.
            for (int position = lots.count - 1; position >= 0; position--) {
                int pressure = lots.pressures.get(position) + riseAt(position);
                lots.pressures.set(position, pressure);
                if (pressure >= POP_PRESSURE) {
                    spoiledJars += lots.remove(position);
                    popped++;
                }
            }
            return popped;
        }

        int recallRefusal(int raw) {
            if (!brine.hasRaw(raw)) {
                return NO_SUCH_INDEX;
            }
            return brine.isRawFaulty(raw) ? BAD_STATE : ALLOWED;
        }

        int recallRaw(int raw) {
            int found = 0;
            brine.markFaulty(raw);
            for (int position = lots.count - 1; position >= 0; position--) {
                if (setHas(rawsAt(position), raw)) {
                    recalledJars += lots.remove(position);
                    found++;
                }
            }
            return found;
        }

        int strengthAt(int position) {
            int first = brine.strengths.get(lots.firsts.get(position));
            int second = brine.strengths.get(lots.seconds.get(position));
            return (first + second) / 2;
        }

        int rawsAt(int position) {
            return brine.sources.get(lots.firsts.get(position)) | brine.sources.get(lots.seconds.get(position));
        }

        private int riseAt(int position) {
            return MOST_STRENGTH + 1 - strengthAt(position);
        }

        int daysDayByDay(int position) {
            int pressure = lots.pressures.get(position);
            int day = 0;
            while (pressure < POP_PRESSURE && day < POP_PRESSURE) {
                pressure += riseAt(position);
                day++;
            }
            return day;
        }

        int daysDivided(int position) {
            int missing = POP_PRESSURE - lots.pressures.get(position);
            int rise = riseAt(position);
            return rise > 0 ? (missing + rise - 1) / rise : 0;
        }

        int countThroughBatches(int raw) {
            int found = 0;
            int counted = 0;
            for (int batch = 0; batch < brine.batches; batch++) {
                if (setHas(brine.sources.get(batch), raw)) {
                    int filled = lotsOfBatch(batch);
                    // A lot of two such batches is found twice, but counts once.
                    found += Integer.bitCount(filled & ~counted);
                    counted |= filled;
                }
            }
            return found;
        }

        private int lotsOfBatch(int batch) {
            int set = 0;
            for (int position = 0; position < lots.count; position++) {
                if (lots.firsts.get(position) == batch || lots.seconds.get(position) == batch) {
                    set |= 1 << position;
                }
            }
            return set;
        }

        int countFromSets(int raw) {
            int found = 0;
            for (int position = 0; position < lots.count; position++) {
                if (setHas(rawsAt(position), raw)) {
                    found++;
                }
            }
            return found;
        }

        void copyFrom(State other) {
            brine.copyFrom(other.brine);
            labels.copyFrom(other.labels);
            lots.copyFrom(other.lots);
            days = other.days;
            filledJars = other.filledJars;
            shippedJars = other.shippedJars;
            recalledJars = other.recalledJars;
            spoiledJars = other.spoiledJars;
        }
    }

    /** The states before the last modifications, in a ring that is made once. */
    private static final class History {
        private final State[] ring = new State[UNDO_STEPS];
        private int next = 0;
        private int count = 0;

        History() {
            for (int place = 0; place < ring.length; place++) {
                ring[place] = new State();
            }
        }

        private State at(int place) {
            return place >= 0 && place < ring.length ? ring[place] : null;
        }

        void keep(State state) {
            State slot = at(next);
            if (slot != null) {
                slot.copyFrom(state);
                next = next + 1 < UNDO_STEPS ? next + 1 : 0;
                count = Math.min(count + 1, UNDO_STEPS);
            }
        }

        void takeBack(State state) {
            int last = next > 0 ? next - 1 : UNDO_STEPS - 1;
            State slot = at(last);
            if (slot != null && count > 0) {
                state.copyFrom(slot);
                next = last;
                count--;
            }
        }

        void forget() {
            count = 0;
        }
    }

    /** The distance of a scanned text and a word, in two ways. */
    private static final class Distances {
        private static final int WIDTH = LABEL_LETTERS + 1;
        private static final int UNKNOWN = -1;

        private final Row table = new Row((SCANNED_LETTERS + 1) * WIDTH);
        private final Row found = new Row((SCANNED_LETTERS + 1) * WIDTH);

        int byTable(Text text, Text word) {
            for (int row = 0; row <= text.length; row++) {
                for (int column = 0; column <= word.length; column++) {
                    table.set(row * WIDTH + column, cell(text, word, row, column));
                }
            }
            return table.get(text.length * WIDTH + word.length);
        }

        private int cell(Text text, Text word, int row, int column) {
            if (row == 0 || column == 0) {
                return row + column;
            }
            int above = (row - 1) * WIDTH + column;
            int left = row * WIDTH + column - 1;
            int replaced = table.get(above - 1) + (text.at(row - 1) == word.at(column - 1) ? 0 : 1);
            return Math.min(replaced, Math.min(table.get(above), table.get(left)) + 1);
        }

        int byLetters(Text text, Text word) {
            found.setAll(UNKNOWN);
            return goOn(found, text, word, 0, 0, 0);
        }

        /** The distance of what follows in both; each level goes on by a letter at least. */
        private static int goOn(Row found, Text text, Text word, int inText, int inWord, int depth) {
            int textLeft = text.length - inText;
            int wordLeft = word.length - inWord;
            if (textLeft <= 0 || wordLeft <= 0 || depth > SCANNED_LETTERS + LABEL_LETTERS) {
                return Math.max(textLeft, 0) + Math.max(wordLeft, 0);
            }
            int place = inText * WIDTH + inWord;
            if (found.get(place) != UNKNOWN) {
                return found.get(place);
            }
            int distance = goOn(found, text, word, inText + 1, inWord + 1, depth + 1);
            if (text.at(inText) != word.at(inWord)) {
                int removed = goOn(found, text, word, inText + 1, inWord, depth + 1);
                int added = goOn(found, text, word, inText, inWord + 1, depth + 1);
                distance = Math.min(distance, Math.min(removed, added)) + 1;
            }
            found.set(place, distance);
            return distance;
        }
    }

    /** The least number of crates for the stored jar lots, in two ways. */
    private static final class Crates {
        private final Row needed = new Row(1 << MOST_LOTS);
        private final Row lastLoads = new Row(1 << MOST_LOTS);
        private final Row loads = new Row(MOST_LOTS);

        int leastBySets(JarLots lots, int capacity) {
            int all = (1 << lots.count) - 1;
            needed.set(0, 0);
            // No crate has no room either, so that the first lot opens one.
            lastLoads.set(0, capacity);
            for (int set = 1; set <= all; set++) {
                findFor(set, lots, capacity);
            }
            return needed.get(all);
        }

        private void findFor(int set, JarLots lots, int capacity) {
            int fewest = MOST_LOTS + 1;
            int leastLoad = 0;
            for (int position = 0; position < lots.count; position++) {
                if (setHas(set, position)) {
                    int others = set - (1 << position);
                    int jars = lots.jars.get(position);
                    boolean hasRoom = lastLoads.get(others) + jars <= capacity;
                    int number = hasRoom ? needed.get(others) : needed.get(others) + 1;
                    int load = hasRoom ? lastLoads.get(others) + jars : jars;
                    if (number < fewest || number == fewest && load < leastLoad) {
                        fewest = number;
                        leastLoad = load;
                    }
                }
            }
            needed.set(set, fewest);
            lastLoads.set(set, leastLoad);
        }

        int leastByTrial(JarLots lots, int capacity) {
            return put(loads, lots, capacity, 0, 0, MOST_LOTS + 1);
        }

        /** Puts the lots from a position on, with so many crates in use, and answers the fewest seen. */
        private static int put(Row loads, JarLots lots, int capacity, int position, int used, int best) {
            // A plan with as many crates as the best one cannot win any more.
            if (used >= best) {
                return best;
            }
            if (position >= lots.count || position >= MOST_LOTS) {
                return used;
            }
            int jars = lots.jars.get(position);
            int fewest = best;
            for (int crate = 0; crate <= used; crate++) {
                int load = crate < used ? loads.get(crate) : 0;
                if (load + jars <= capacity) {
                    loads.set(crate, load + jars);
                    fewest = put(loads, lots, capacity, position + 1, Math.max(used, crate + 1), fewest);
                    loads.set(crate, load);
                }
            }
            return fewest;
        }
    }

    /** The raw lots to be tested, in two ways. */
    private static final class TestSets {
        /** The best test set; the sets come in ascending order, so that the first of several stays. */
        static int best(State state) {
            int all = (1 << state.brine.raws) - 1;
            int best = all;
            for (int set = 0; set < all; set++) {
                if (Integer.bitCount(set) < Integer.bitCount(best) && firstUntested(state, set) == NONE) {
                    best = set;
                }
            }
            return best;
        }

        private static int firstUntested(State state, int set) {
            for (int position = 0; position < state.lots.count; position++) {
                if ((state.rawsAt(position) & set) == 0) {
                    return position;
                }
            }
            return NONE;
        }

        static int fewestByBranching(State state) {
            return branch(state, 0, 0);
        }

        private static int branch(State state, int chosen, int depth) {
            int open = firstUntested(state, chosen);
            if (open == NONE || depth >= MOST_RAWS) {
                return Integer.bitCount(chosen);
            }
            int candidates = state.rawsAt(open);
            int fewest = MOST_RAWS;
            for (int raw = 0; raw < MOST_RAWS; raw++) {
                if (setHas(candidates, raw)) {
                    fewest = Math.min(fewest, branch(state, chosen | 1 << raw, depth + 1));
                }
            }
            return fewest;
        }
    }

    /** Reads the text buffer as commands, and stops at the first character that no valid text goes on with. */
    private static final class CommandText {
        private static final int RAW = 0;
        private static final int MIX = 1;
        private static final int FILL = 2;
        private static final int SHIP = 3;
        private static final int DAY = 4;
        private static final int RECALL = 5;
        private static final int KINDS = 6;
        private static final int MOST_ARGUMENTS = 4;
        private static final int SHORTEST_COMMAND = 3;
        private static final int MOST_COMMANDS = BUFFER_LENGTH / SHORTEST_COMMAND;

        private final Text source = new Text(BUFFER_LENGTH);
        private final Row kinds = new Row(MOST_COMMANDS);
        private final Row arguments = new Row(MOST_COMMANDS * MOST_ARGUMENTS);
        private int count = 0;
        private int reading = 0;
        private int position = 0;

        int argument(int command, int index) {
            return arguments.get(command * MOST_ARGUMENTS + index);
        }

        boolean read(Text text) {
            source.copyFrom(text);
            position = 0;
            for (int command = 0; command < MOST_COMMANDS; command++) {
                reading = command;
                count = command + 1;
                if (!readCommand()) {
                    return false;
                }
                if (source.at(position) != ';') {
                    return position == source.length;
                }
                position++;
            }
            return false;
        }

        private boolean readCommand() {
            int kind = readKind();
            kinds.set(reading, kind);
            switch (kind) {
                case RAW:
                    return true;
                case MIX:
                    return readNumber(0) && readNumber(1);
                case FILL:
                    return readDigit(0) && readDigit(1) && readDigit(2) && readDigit(3);
                case SHIP:
                    return readNumber(0);
                case DAY:
                    return readDays();
                case RECALL:
                    return readDigit(0);
                default:
                    return false;
            }
        }

        private int readKind() {
            int longest = 0;
            for (int kind = 0; kind < KINDS; kind++) {
                String name = nameOf(kind);
                int same = sameLetters(name);
                longest = Math.max(longest, same);
                if (same == name.length()) {
                    position += same;
                    return kind;
                }
            }
            position += longest;
            return NONE;
        }

        private static String nameOf(int kind) {
            switch (kind) {
                case RAW:
                    return "raw";
                case MIX:
                    return "mix";
                case FILL:
                    return "fill";
                case SHIP:
                    return "ship";
                case DAY:
                    return "day";
                default:
                    return "recall";
            }
        }

        private int sameLetters(String name) {
            for (int index = 0; index < name.length(); index++) {
                if (source.at(position + index) != name.charAt(index)) {
                    return index;
                }
            }
            return name.length();
        }

        private boolean readDays() {
            if (source.at(position) == ' ') {
                return readNumber(0);
            }
            keepArgument(0, 1);
            return true;
        }

        private boolean readNumber(int index) {
            if (!readDigit(index)) {
                return false;
            }
            if (isDigit(source.at(position))) {
                keepArgument(index, argument(reading, index) * 10 + source.at(position) - '0');
                position++;
            }
            return true;
        }

        private boolean readDigit(int index) {
            if (source.at(position) != ' ') {
                return false;
            }
            position++;
            if (!isDigit(source.at(position))) {
                return false;
            }
            keepArgument(index, source.at(position) - '0');
            position++;
            return true;
        }

        private static boolean isDigit(char character) {
            return character >= '0' && character <= '9';
        }

        private void keepArgument(int index, int value) {
            arguments.set(reading * MOST_ARGUMENTS + index, value);
        }
    }
}
