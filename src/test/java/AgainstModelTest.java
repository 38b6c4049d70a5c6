import java.util.Random;

/** Long runs of chosen calls, each answered by the class and by the model, with a fixed seed. */
public final class AgainstModelTest {
    private static final int RUNS = 300;
    private static final int STEPS = 400;
    private static final int EDGE = 12;
    private static final String[] PIECES = {"raw", "mix", "fill", "ship", "day", "recall", ";", " ", " 1", " 2", "0",
        "7", " 31", "r", "re", "x", "fil", " 0 0 0 5", "a"};

    private final Check check = new Check();
    private final Random random;
    private final JarCannery real = new JarCannery();
    private final Model model = new Model();
    private final StringBuilder calls = new StringBuilder();
    private final int mood;
    private boolean same = true;

    private AgainstModelTest(long seed) {
        random = new Random(seed);
        mood = random.nextInt(4);
    }

    public static void main(String[] args) {
        int wrong = 0;
        for (int run = 0; run < RUNS && wrong < 3; run++) {
            AgainstModelTest test = new AgainstModelTest(run);
            test.run();
            wrong += test.same ? 0 : 1;
        }
        System.out.println(RUNS + " runs against the model, " + wrong + " not the same");
        if (wrong != 0) {
            System.exit(1);
        }
    }

    private void run() {
        for (int step = 0; step < STEPS && same; step++) {
            act();
            if (step % 7 == 0) {
                lookAtAll();
            }
        }
        if (!same) {
            System.out.println("after: " + calls);
        }
    }

    private interface Call {
        Object on();
    }

    private void both(String name, Call asReal, Call asModel) {
        String got = Check.answer(asReal::on);
        String want = Check.answer(asModel::on);
        if (same && !got.equals(want)) {
            same = false;
            System.out.println(name + " answered " + got + ", due is " + want);
        }
    }

    private void told(String name, Call asReal, Call asModel) {
        calls.append(name).append(' ');
        both(name, asReal, asModel);
    }

    /** Mostly a number that there may be, now and then one that there is not. */
    private int number(int bound) {
        int choice = random.nextInt(20);
        if (choice == 0) {
            return -1 - random.nextInt(3);
        }
        if (choice == 1) {
            return random.nextInt();
        }
        return random.nextInt(bound + 1);
    }

    private void act() {
        switch (random.nextInt(16)) {
            case 0, 1 -> told("addRaw", real::addRaw, model::addRaw);
            case 2, 3 -> mix();
            case 4 -> addLabel();
            case 5, 6, 7 -> fill();
            case 8 -> ship();
            case 9 -> pass();
            case 10 -> recall();
            case 11 -> scan();
            case 12 -> {
                execute(random.nextInt(3) == 0 ? randomText() : validText());
            }
            case 13 -> told("undo", real::undo, model::undo);
            case 14 -> snapshot();
            default -> typeOne();
        }
    }

    private void mix() {
        int sources = random.nextInt(4) == 0 ? number(70) : random.nextInt(1 << Math.max(model.rawCount(), 1));
        int strength = mood == 0 ? 17 + random.nextInt(4) : number(21);
        told("mix(" + sources + "," + strength + ")", () -> real.mix(sources, strength),
                () -> model.mix(sources, strength));
    }

    private void typeText(String text) {
        for (int index = 0; index < text.length(); index++) {
            char character = text.charAt(index);
            told("type(" + (int) character + ")", () -> real.type(character), () -> model.type(character));
        }
    }

    private String letters(int most) {
        StringBuilder letters = new StringBuilder();
        int spread = random.nextInt(3) == 0 ? 9 : 3;
        for (int count = random.nextInt(most + 1); count > 0; count--) {
            letters.append((char) ('a' + random.nextInt(spread)));
        }
        return letters.toString();
    }

    private void clear() {
        told("clearText", real::clearText, model::clearText);
    }

    private void addLabel() {
        if (random.nextInt(4) != 0) {
            clear();
        }
        typeText(letters(random.nextInt(4) == 0 ? 7 : 4));
        told("addLabel", real::addLabel, model::addLabel);
    }

    private void fill() {
        int first = random.nextInt(8) == 0 ? number(6) : random.nextInt(Math.max(model.batchCount(), 1));
        int second = random.nextInt(8) == 0 ? number(6) : random.nextInt(Math.max(model.batchCount(), 1));
        int label = random.nextInt(8) == 0 ? number(8) : random.nextInt(Math.max(model.labelCount(), 1));
        int jars = random.nextInt(8) == 0 ? number(10) : 1 + random.nextInt(9);
        told("fill(" + first + "," + second + "," + label + "," + jars + ")",
                () -> real.fill(first, second, label, jars), () -> model.fill(first, second, label, jars));
    }

    private int someLot() {
        boolean stored = model.lotCount() > 0 && random.nextInt(4) != 0;
        return stored ? model.lotAt(random.nextInt(model.lotCount())) : number(20);
    }

    private void ship() {
        int lot = someLot();
        told("ship(" + lot + ")", () -> real.ship(lot), () -> model.ship(lot));
    }

    private void pass() {
        int days = random.nextInt(5) == 0 ? number(31) : 1 + random.nextInt(4);
        told("pass(" + days + ")", () -> real.pass(days), () -> model.pass(days));
    }

    private void recall() {
        if (mood == 1 || random.nextInt(3) == 0) {
            int raw = number(6);
            told("recall(" + raw + ")", () -> real.recall(raw), () -> model.recall(raw));
        }
    }

    private void scan() {
        if (random.nextInt(3) != 0) {
            clear();
        }
        typeText(letters(13));
        told("scan", real::scan, model::scan);
        for (int label = -1; label <= 8; label++) {
            int chosen = label;
            both("distanceTo(" + label + ")", () -> real.distanceTo(chosen), () -> model.distanceTo(chosen));
            both("distanceByLetters(" + label + ")", () -> real.distanceByLetters(chosen),
                    () -> model.distanceTo(chosen));
        }
    }

    private String randomText() {
        StringBuilder text = new StringBuilder();
        for (int count = random.nextInt(8); count > 0; count--) {
            text.append(PIECES[random.nextInt(PIECES.length)]);
        }
        return text.toString();
    }

    private String validText() {
        StringBuilder text = new StringBuilder();
        for (int count = 1 + random.nextInt(4); count > 0; count--) {
            text.append(switch (random.nextInt(7)) {
                case 0 -> "raw";
                case 1 -> "mix " + (1 + random.nextInt(random.nextBoolean() ? 3 : 63)) + " " + random.nextInt(22);
                case 2, 3 -> "fill " + random.nextInt(3) + " " + random.nextInt(3) + " " + random.nextInt(2) + " "
                        + random.nextInt(10);
                case 4 -> "ship " + Math.floorMod(someLot(), 100);
                case 5 -> random.nextBoolean() ? "day" : "day " + random.nextInt(5);
                default -> random.nextInt(4) == 0 ? "recall " + random.nextInt(6) : "day 0" + random.nextInt(3);
            });
            text.append(count > 1 ? ";" : "");
        }
        if (random.nextInt(6) == 0) {
            text.setCharAt(random.nextInt(text.length()), PIECES[random.nextInt(PIECES.length)].charAt(0));
        }
        return text.toString();
    }

    private void execute(String text) {
        if (random.nextInt(5) != 0) {
            clear();
        }
        typeText(text);
        told("execute", real::execute, model::execute);
        both("errorPosition", real::errorPosition, model::errorPosition);
        both("failedCommand", real::failedCommand, model::failedCommand);
        both("clearText", real::clearText, model::clearText);
    }

    private void snapshot() {
        if (random.nextBoolean()) {
            told("save", real::save, model::save);
        } else if (random.nextInt(3) == 0) {
            told("restore", real::restore, model::restore);
        }
    }

    private void typeOne() {
        char character = (char) (random.nextBoolean() ? random.nextInt(130) : random.nextInt(65536));
        told("type(" + (int) character + ")", () -> real.type(character), () -> model.type(character));
        int lot = someLot();
        if (random.nextBoolean()) {
            told("writeLot(" + lot + ")", () -> real.writeLot(lot), () -> model.writeLot(lot));
        } else {
            told("writeRaws", real::writeRaws, model::writeRaws);
        }
    }

    private void lookAtAll() {
        lookAtCounts();
        for (int at = -1; at <= EDGE; at++) {
            lookAtNumber(at);
            lookAtPairs(at);
        }
        for (int position = 0; position < model.lotCount(); position++) {
            lookAtLot(model.lotAt(position));
        }
        lookAtLot(someLot());
        for (int capacity : new int[] {8, 9, 10 + random.nextInt(30), 20, 40, 41, number(50)}) {
            both("leastCrates(" + capacity + ")", () -> real.leastCrates(capacity),
                    () -> model.leastCrates(capacity));
            both("leastCratesByTrial(" + capacity + ")", () -> real.leastCratesByTrial(capacity),
                    () -> model.leastCrates(capacity));
        }
    }

    private void lookAtCounts() {
        both("rawCount", real::rawCount, model::rawCount);
        both("batchCount", real::batchCount, model::batchCount);
        both("labelCount", real::labelCount, model::labelCount);
        both("lotCount", real::lotCount, model::lotCount);
        both("fewestTests", real::fewestTests, model::fewestTests);
        both("fewestTestsByBranching", real::fewestTestsByBranching, model::fewestTests);
        both("dayCount", real::dayCount, model::dayCount);
        both("filled", real::filled, model::filled);
        both("stored", real::stored, model::stored);
        both("shipped", real::shipped, model::shipped);
        both("recalled", real::recalled, model::recalled);
        both("spoiled", real::spoiled, model::spoiled);
        both("meanPressure", real::meanPressure, model::meanPressure);
        both("shippedShare", real::shippedShare, model::shippedShare);
        both("isConsistent", real::isConsistent, model::isConsistent);
        both("errorPosition", real::errorPosition, model::errorPosition);
        both("failedCommand", real::failedCommand, model::failedCommand);
    }

    private void lookAtNumber(int at) {
        both("isFaulty(" + at + ")", () -> real.isFaulty(at), () -> model.isFaulty(at));
        both("strengthOf(" + at + ")", () -> real.strengthOf(at), () -> model.strengthOf(at));
        both("labelLength(" + at + ")", () -> real.labelLength(at), () -> model.labelLength(at));
        both("lotAt(" + at + ")", () -> real.lotAt(at), () -> model.lotAt(at));
        both("lotByPressure(" + at + ")", () -> real.lotByPressure(at), () -> model.lotByPressure(at));
        both("affectedLots(" + at + ")", () -> real.affectedLots(at), () -> model.affectedLots(at));
        both("affectedBySets(" + at + ")", () -> real.affectedBySets(at), () -> model.affectedLots(at));
        both("isTested(" + at + ")", () -> real.isTested(at), () -> model.isTested(at));
        both("lineAt(" + at + ")", () -> real.lineAt(at), () -> model.lineAt(at));
    }

    private void lookAtPairs(int at) {
        for (int other = -1; other <= 7; other++) {
            int second = other;
            both("batchContains(" + at + "," + other + ")", () -> real.batchContains(at, second),
                    () -> model.batchContains(at, second));
            both("labelLetter(" + at + "," + other + ")", () -> real.labelLetter(at, second),
                    () -> model.labelLetter(at, second));
        }
    }

    private void lookAtLot(int lot) {
        both("jarsOf(" + lot + ")", () -> real.jarsOf(lot), () -> model.jarsOf(lot));
        both("labelOf(" + lot + ")", () -> real.labelOf(lot), () -> model.labelOf(lot));
        both("strengthOfLot(" + lot + ")", () -> real.strengthOfLot(lot), () -> model.strengthOfLot(lot));
        both("pressureOf(" + lot + ")", () -> real.pressureOf(lot), () -> model.pressureOf(lot));
        both("daysUntilPop(" + lot + ")", () -> real.daysUntilPop(lot), () -> model.daysUntilPop(lot));
        both("daysByDivision(" + lot + ")", () -> real.daysByDivision(lot), () -> model.daysUntilPop(lot));
        for (int raw = -1; raw <= 6; raw++) {
            int chosen = raw;
            both("lotContains(" + lot + "," + raw + ")", () -> real.lotContains(lot, chosen),
                    () -> model.lotContains(lot, chosen));
        }
    }
}
