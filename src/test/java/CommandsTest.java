import java.util.NoSuchElementException;

/** Promises 49 to 53: text and commands. */
public final class CommandsTest {
    private final Check check = new Check();

    public static void main(String[] args) {
        CommandsTest test = new CommandsTest();
        test.promise49And50Buffer();
        test.promise51AllKinds();
        test.promise51Numbers();
        test.promise51TakenBack();
        test.promise51Limits();
        test.promise52ErrorPositions();
        test.promise52Kept();
        test.promise53FailedCommands();
        test.check.finish();
    }

    private void promise49And50Buffer() {
        JarCannery x = new JarCannery();
        for (int bad : new int[] {0, 10, 31, 127, 128, 255, 256, 65535}) {
            check.refused("49 type " + bad, IllegalArgumentException.class, () -> x.type((char) bad));
        }
        check.due("49 the first", 1, () -> x.type(' '));
        check.due("49 the second", 2, () -> x.type('~'));
        check.due("50 clearText", 2, x::clearText);
        check.due("50 clearText again", 0, x::clearText);
        for (int length = 1; length <= 60; length++) {
            check.due("49 type", length, () -> x.type('a'));
        }
        check.refused("49 a full buffer", IllegalStateException.class, () -> x.type('a'));
        check.refused("49 a full buffer, a bad character", IllegalArgumentException.class, () -> x.type((char) 31));
        check.due("50 a full buffer", 60, x::clearText);
        check.due("49 from the start", 1, () -> x.type('a'));
        check.refused("50 clearing is not undone", IllegalStateException.class, x::undo);
    }

    private void runs(JarCannery x, String text, Object want) {
        check.due("51 '" + text + "'", want, () -> Build.execute(x, text));
        check.due("51 the buffer after '" + text + "'", 0, x::clearText);
    }

    private void promise51AllKinds() {
        JarCannery x = new JarCannery();
        runs(x, "raw", 1);
        runs(x, "raw;raw;raw", 3);
        Build.label(x, "abba");
        runs(x, "mix 3 20;mix 12 05", 2);
        check.due("51 what was mixed", "4 2 1 0 0 0 0 0 . . . . b20/1100 b5/0011 labba", () -> Build.sight(x));
        runs(x, "fill 0 1 0 7;fill 1 1 0 2;fill 0 0 0 9", 3);
        runs(x, "day", 1);
        check.due("51 a day", 1, x::dayCount);
        runs(x, "day 2;day 03", 2);
        check.due("51 days, and lot 1 popped", "4 2 1 6 18 0 0 2 . . . . b20/1100 b5/0011 labba #0:7,0,12,54 #2:9,0,20,6",
                () -> Build.sight(x));
        runs(x, "ship 2;recall 2", 2);
        check.due("51 shipped and recalled", "4 2 1 6 18 9 7 2 . . x . b20/1100 b5/0011 labba", () -> Build.sight(x));
    }

    private void promise51Numbers() {
        JarCannery x = Build.raws(6);
        Build.label(x, "a");
        runs(x, "mix 63 10", 1);
        runs(x, "mix 01 1", 1);
        check.due("51 mix 01", true, () -> x.batchContains(1, 0));
        check.due("51 mix 63", true, () -> x.batchContains(0, 5));
        for (int lot = 0; lot < 11; lot++) {
            runs(x, "fill 0 0 0 1", 1);
            runs(x, lot < 10 ? "ship " + lot : "day 30", 1);
        }
        check.due("51 two digits of days", 30, x::dayCount);
        runs(x, "fill 0 0 0 4;ship 11", 2);
        check.due("51 two digits of a lot", 14, x::shipped);
    }

    private void promise51TakenBack() {
        JarCannery x = Build.lots(3, 4);
        x.pass(1);
        String sight = Build.sight(x);
        String[] failing = {"raw", "ship 0;ship 0", "day 5;day 0", "day 5;day 31", "recall 0;fill 0 0 0 1", "mix 0 1",
            "fill 0 0 0 5;fill 0 0 0 0", "fill 0 0 1 1", "fill 0 1 0 1", "ship 99", "recall 6", "recall 1;recall 1",
            "mix 1 5;mix 64 5", "mix 1 21", "mix 1 00", "recall 1;mix 2 5", "day 30;day 30;ship 0"};
        for (String text : failing) {
            runs(x, text, "throws IllegalStateException");
            check.due("51 taken back after " + text, sight, () -> Build.sight(x));
        }
        check.due("51 the number of the next lot, too", 2, () -> x.fill(0, 0, 0, 1));
    }

    private void promise51Limits() {
        JarCannery x = Build.lots(1);
        runs(x, "day;day;day;day;day;day;day;day;day;day;day;day;day;day;day", 15);
        check.due("51 fifteen days", 15, x::dayCount);
        runs(x, "day;day;day;day;day;day;day;day;day;day;day;day;day;day;day;", "throws IllegalArgumentException");
        check.due("52 at the end of a full buffer", 60, x::errorPosition);
        check.due("51 nothing was done", 15, x::dayCount);
        runs(x, "day;;", "throws IllegalArgumentException");
        check.due("51 nothing was done", 15, x::dayCount);
    }

    private void malformed(String text, int position) {
        JarCannery x = Build.lots(1);
        check.refused("51 '" + text + "'", IllegalArgumentException.class, () -> Build.execute(x, text));
        check.due("52 errorPosition of '" + text + "'", position, x::errorPosition);
        check.due("51 the buffer after '" + text + "'", 0, x::clearText);
        check.refused("53 none failed", NoSuchElementException.class, x::failedCommand);
    }

    private void promise52ErrorPositions() {
        malformed("", 0);
        malformed("x", 0);
        malformed(" raw", 0);
        malformed("Raw", 0);
        malformed(";", 0);
        malformed("0", 0);
        malformed("r", 1);
        malformed("rx", 1);
        malformed("ra", 2);
        malformed("rax", 2);
        malformed("re", 2);
        malformed("rew", 2);
        malformed("raww", 3);
        malformed("raw ", 3);
        malformed("raw 1", 3);
        malformed("raw;", 4);
        malformed("raw; raw", 4);
        malformed("raw ;raw", 3);
        malformed("raw;raw;fal", 9);
        malformed("recal", 5);
        malformed("recall", 6);
        malformed("recall1", 6);
        malformed("recall ", 7);
        malformed("recall x", 7);
        malformed("recall 11", 8);
        malformed("recall 1 ", 8);
        malformed("m", 1);
        malformed("mix", 3);
        malformed("mix 1", 5);
        malformed("mix 12", 6);
        malformed("mix 123", 6);
        malformed("mix 1;", 5);
        malformed("mix  1 2", 4);
        malformed("mix 1  2", 6);
        malformed("mix -1 2", 4);
        malformed("mix 1 2 3", 7);
        malformed("mix 1 234", 8);
        malformed("fill 0 0 0", 10);
        malformed("fill 0 0 0 ", 11);
        malformed("fill 0 0 0 10", 12);
        malformed("fill 00 0 0 1", 6);
        malformed("fill 0;", 6);
        malformed("fill0", 4);
        malformed("ship", 4);
        malformed("ship ", 5);
        malformed("ship 123", 7);
        malformed("ship 1 ", 6);
        malformed("shop 1", 2);
        malformed("day ", 4);
        malformed("day ;", 4);
        malformed("day 1 ", 5);
        malformed("day 123", 6);
        malformed("days", 3);
        malformed("day 1;dax", 8);
        malformed("day 1,day", 5);
        malformed("day 1;:", 6);
        malformed("day 1:", 5);
        malformed("day /", 4);
    }

    private void promise52Kept() {
        JarCannery x = Build.raws(1);
        check.refused("52 none yet", NoSuchElementException.class, x::errorPosition);
        runs(x, "raw;ship 1", "throws IllegalStateException");
        check.refused("52 a failed command is no malformed text", NoSuchElementException.class, x::errorPosition);
        runs(x, "raw;rrr", "throws IllegalArgumentException");
        check.due("52 errorPosition", 5, x::errorPosition);
        check.due("53 failedCommand stays", 1, x::failedCommand);
        x.save();
        runs(x, "raw", 1);
        check.due("52 it stays after a good text", 5, x::errorPosition);
        x.undo();
        check.due("52 it is not undone", 5, x::errorPosition);
        runs(x, "q", "throws IllegalArgumentException");
        x.restore();
        check.due("52 it is not restored", 0, x::errorPosition);
    }

    private void promise53FailedCommands() {
        JarCannery x = Build.lots(1);
        check.refused("53 none yet", NoSuchElementException.class, x::failedCommand);
        runs(x, "day;day;ship 7", "throws IllegalStateException");
        check.due("53 the third", 2, x::failedCommand);
        runs(x, "ship 7;ship 8", "throws IllegalStateException");
        check.due("53 the first of two", 0, x::failedCommand);
        runs(x, "day;recall 9;day", "throws IllegalStateException");
        check.due("53 the second", 1, x::failedCommand);
        runs(x, "day", 1);
        check.due("53 it stays after a good text", 1, x::failedCommand);
        x.undo();
        check.due("53 it is not undone", 1, x::failedCommand);
        runs(x, "day 0", "throws IllegalStateException");
        check.due("53 the first", 0, x::failedCommand);
    }
}
