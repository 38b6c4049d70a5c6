import java.util.NoSuchElementException;

/** Promises 37 to 48: accounts, lines and checks. */
public final class AccountsTest {
    private final Check check = new Check();

    public static void main(String[] args) {
        AccountsTest test = new AccountsTest();
        test.promise37To42Counts();
        test.promise43MeanPressure();
        test.promise44ShippedShare();
        test.promise45WriteLot();
        test.promise45LongNumbers();
        test.promise46WriteRaws();
        test.promise47LineAt();
        test.promise48IsConsistent();
        test.check.finish();
    }

    private void counts(JarCannery x, int days, int filled, int stored, int shipped, int recalled, int spoiled) {
        check.due("37 dayCount", days, x::dayCount);
        check.due("38 filled", filled, x::filled);
        check.due("39 stored", stored, x::stored);
        check.due("40 shipped", shipped, x::shipped);
        check.due("41 recalled", recalled, x::recalled);
        check.due("42 spoiled", spoiled, x::spoiled);
    }

    private void promise37To42Counts() {
        JarCannery x = Build.batches(1, 20, 2, 1);
        counts(x, 0, 0, 0, 0, 0, 0);
        x.fill(0, 0, 0, 1);
        x.fill(0, 0, 0, 2);
        x.fill(1, 1, 0, 4);
        x.fill(1, 0, 0, 8);
        counts(x, 0, 15, 15, 0, 0, 0);
        x.ship(1);
        counts(x, 0, 15, 13, 2, 0, 0);
        x.pass(3);
        counts(x, 3, 15, 9, 2, 0, 4);
        x.recall(1);
        counts(x, 3, 15, 1, 2, 8, 4);
        x.ship(0);
        counts(x, 3, 15, 0, 3, 8, 4);
        x.undo();
        counts(x, 3, 15, 1, 2, 8, 4);
    }

    private void promise43MeanPressure() {
        JarCannery x = Build.batches(1, 20, 2, 13);
        check.refused("43 no lot", ArithmeticException.class, x::meanPressure);
        x.fill(0, 0, 0, 9);
        check.due("43 at first", 0.0, x::meanPressure);
        x.pass(1);
        x.fill(0, 0, 0, 1);
        check.due("43 a half", 0.5, x::meanPressure);
        x.fill(1, 1, 0, 1);
        check.due("43 a third", 1.0 / 3.0, x::meanPressure);
        x.pass(1);
        check.due("43 the next day", 11.0 / 3.0, x::meanPressure);
        x.ship(0);
        x.ship(1);
        x.ship(2);
        check.refused("43 no lot any more", ArithmeticException.class, x::meanPressure);
    }

    private void promise44ShippedShare() {
        JarCannery x = Build.lots();
        check.refused("44 none filled", ArithmeticException.class, x::shippedShare);
        x.fill(0, 0, 0, 2);
        check.due("44 none shipped", 0.0f, x::shippedShare);
        x.fill(0, 0, 0, 1);
        x.ship(1);
        check.due("44 a third", 1.0f / 3.0f, x::shippedShare);
        x.ship(0);
        check.due("44 all", 1.0f, x::shippedShare);
        x.fill(0, 0, 0, 7);
        check.due("44 three of ten", 3.0f / 10.0f, x::shippedShare);
    }

    private void promise45WriteLot() {
        JarCannery x = Build.batches(1, 7);
        Build.label(x, "h");
        for (int lot = 0; lot < 3; lot++) {
            x.fill(0, 0, 0, 1);
        }
        x.fill(0, 0, 0, 5);
        x.pass(3);
        check.due("45 writeLot(3)", 11, () -> x.writeLot(3));
        check.due("45 the line", "3:5xabba/42", () -> Build.line(x, 11));
        x.pass(1);
        check.due("45 the line stays until it is written", "3:5xabba/42", () -> Build.line(x, 11));
        check.due("45 writeLot(3) later", 11, () -> x.writeLot(3));
        check.due("45 the line", "3:5xabba/56", () -> Build.line(x, 11));
        x.fill(0, 0, 1, 9);
        check.due("45 a shorter line", 7, () -> x.writeLot(4));
        check.due("45 the line", "4:9xh/0", () -> Build.line(x, 7));
        check.refused("47 past the shorter line", IndexOutOfBoundsException.class, () -> x.lineAt(7));
        for (int lot : new int[] {-1, 5, Integer.MAX_VALUE, Integer.MIN_VALUE}) {
            check.refused("45 lot " + lot, NoSuchElementException.class, () -> x.writeLot(lot));
        }
        check.due("45 the line is left", "4:9xh/0", () -> Build.line(x, 7));
    }

    private void promise45LongNumbers() {
        JarCannery x = Build.batches(1, 10);
        for (int lot = 0; lot < 205; lot++) {
            x.fill(0, 0, 0, 8);
            String want = lot + ":8xabba/" + 0;
            int number = lot;
            check.due("45 writeLot " + lot, want.length(), () -> x.writeLot(number));
            check.due("45 the line of " + lot, want, () -> Build.line(x, want.length()));
            x.ship(lot);
        }
        x.fill(0, 0, 0, 8);
        x.pass(1);
        check.due("45 writeLot at 11", 13, () -> x.writeLot(205));
        check.due("45 the line at 11", "205:8xabba/11", () -> Build.line(x, 13));
    }

    private void promise46WriteRaws() {
        JarCannery x = new JarCannery();
        check.due("46 no raw lots", 0, x::writeRaws);
        JarCannery y = Build.batches(6, 20, 8, 20);
        check.due("46 no lots", 6, y::writeRaws);
        check.due("46 the line", "......", () -> Build.line(y, 6));
        y.fill(0, 0, 0, 1);
        y.fill(1, 1, 0, 1);
        y.recall(5);
        check.due("46 writeRaws", 6, y::writeRaws);
        check.due("46 the line", ".*.*.x", () -> Build.line(y, 6));
        y.recall(1);
        check.due("46 the line stays until it is written", ".*.*.x", () -> Build.line(y, 6));
        y.writeRaws();
        check.due("46 the line", ".x.*.x", () -> Build.line(y, 6));
        y.writeLot(1);
        check.due("46 writeRaws replaces", 6, y::writeRaws);
        check.refused("47 past the line", IndexOutOfBoundsException.class, () -> y.lineAt(6));
    }

    private void promise47LineAt() {
        JarCannery x = Build.lots(4);
        check.refused("47 empty at first", IndexOutOfBoundsException.class, () -> x.lineAt(0));
        int length = x.writeLot(0);
        check.due("47 the first", '0', () -> x.lineAt(0));
        check.due("47 the last", '0', () -> x.lineAt(length - 1));
        check.due("47 the third", '4', () -> x.lineAt(2));
        for (int index : new int[] {-1, length, 60, Integer.MAX_VALUE, Integer.MIN_VALUE}) {
            check.refused("47 index " + index, IndexOutOfBoundsException.class, () -> x.lineAt(index));
        }
        x.save();
        x.writeRaws();
        x.restore();
        check.due("47 the line is not restored", '*', () -> x.lineAt(0));
        x.ship(0);
        x.writeRaws();
        x.undo();
        check.due("47 nor undone", '.', () -> x.lineAt(0));
    }

    private void promise48IsConsistent() {
        JarCannery x = Build.batches(3, 20, 6, 7, 60, 1);
        int[] jars = {9, 1, 8, 2, 5, 4, 7, 3};
        for (int lot = 0; lot < 8; lot++) {
            x.fill(lot % 3, lot % 2, 0, jars[lot]);
            check.due("48 after fill " + lot, true, x::isConsistent);
        }
        x.pass(2);
        check.due("48 after days", true, x::isConsistent);
        x.ship(0);
        check.due("48 after ship", true, x::isConsistent);
        x.pass(4);
        check.due("48 after pops", true, x::isConsistent);
        x.recall(0);
        check.due("48 after recall", true, x::isConsistent);
        x.undo();
        check.due("48 after undo", true, x::isConsistent);
    }
}
