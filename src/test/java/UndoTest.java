import java.util.ArrayList;
import java.util.List;

/** Promises 54 to 56: undo and snapshots. */
public final class UndoTest {
    private final Check check = new Check();

    public static void main(String[] args) {
        UndoTest test = new UndoTest();
        test.promise54EachKind();
        test.promise54Eight();
        test.promise54NotModifications();
        test.promise54NextNumber();
        test.promise55And56Snapshot();
        test.promise55And56Overwritten();
        test.promise56Undo();
        test.check.finish();
    }

    private void undone(JarCannery x, String what, Runnable modification) {
        String before = Build.sight(x);
        modification.run();
        check.due("54 " + what + " changes", false, () -> before.equals(Build.sight(x)));
        check.due("54 undo of " + what + " is possible", true, () -> x.undo() >= 0);
        check.due("54 undo of " + what, before, () -> Build.sight(x));
    }

    private void promise54EachKind() {
        JarCannery x = Build.raws(3);
        Build.label(x, "abba");
        x.mix(3, 10);
        x.mix(4, 4);
        x.fill(0, 1, 0, 5);
        x.fill(1, 1, 0, 6);
        x.pass(2);
        undone(x, "addRaw", x::addRaw);
        undone(x, "mix", () -> x.mix(7, 1));
        undone(x, "addLabel", () -> Build.label(x, "ab"));
        undone(x, "fill", () -> x.fill(0, 0, 0, 1));
        undone(x, "ship", () -> x.ship(0));
        undone(x, "pass", () -> x.pass(30));
        undone(x, "recall", () -> x.recall(2));
        undone(x, "execute", () -> Build.execute(x, "raw;day;ship 0;recall 2"));
        check.due("54 still seven", 6, x::undo);
    }

    private void promise54Eight() {
        JarCannery x = new JarCannery();
        List<String> sights = new ArrayList<>();
        for (int day = 0; day < 20; day++) {
            sights.add(Build.sight(x));
            x.pass(1 + day % 3);
        }
        for (int left = 7; left >= 0; left--) {
            int due = left;
            check.due("54 undo", due, x::undo);
            check.due("54 the state", sights.get(12 + left), () -> Build.sight(x));
        }
        check.refused("54 a ninth", IllegalStateException.class, x::undo);
        x.addRaw();
        check.due("54 one after all", 0, x::undo);
        check.refused("54 none", IllegalStateException.class, x::undo);
        check.due("54 the state is left", sights.get(12), () -> Build.sight(x));
        x.pass(1);
        x.pass(2);
        x.undo();
        x.pass(4);
        check.due("54 after an undo", 1, x::undo);
        check.due("54 and again", 0, x::undo);
        check.due("54 back", sights.get(12), () -> Build.sight(x));
    }

    private void promise54NotModifications() {
        JarCannery x = Build.raws(1);
        x.type('q');
        check.refused("refused", IllegalArgumentException.class, x::execute);
        check.refused("refused", IllegalStateException.class, () -> Build.execute(x, "raw;ship 1"));
        check.refused("refused", IllegalArgumentException.class, x::addLabel);
        check.refused("refused", IllegalArgumentException.class, () -> x.mix(0, 1));
        check.refused("refused", IllegalArgumentException.class, () -> x.pass(0));
        check.refused("refused", java.util.NoSuchElementException.class, () -> x.ship(0));
        check.refused("refused", IndexOutOfBoundsException.class, () -> x.recall(1));
        check.refused("refused", IndexOutOfBoundsException.class, () -> x.fill(0, 0, 0, 1));
        x.save();
        x.writeRaws();
        x.type('a');
        check.due("54 only addRaw was one", 0, x::undo);
        check.due("54 the buffer is kept", 1, x::clearText);
        check.due("54 no raw lot", 0, x::rawCount);
        check.due("54 the snapshot is kept", 0, x::restore);
        check.due("56 the raw lot is back", 1, x::rawCount);
        Build.execute(x, "raw;raw;day");
        check.due("54 a text is one modification", 0, x::undo);
        check.due("54 all of it", 1, x::rawCount);
    }

    private void promise54NextNumber() {
        JarCannery x = Build.lots(1, 2);
        x.undo();
        check.due("54 the number again", 1, () -> x.fill(0, 0, 0, 3));
        x.ship(1);
        x.undo();
        check.due("54 a shipped one is back", 3, () -> x.jarsOf(1));
        check.due("54 the next number", 2, () -> x.fill(0, 0, 0, 3));
    }

    private void promise55And56Snapshot() {
        JarCannery x = Build.lots(1, 2);
        check.refused("56 none yet", IllegalStateException.class, x::restore);
        check.due("55 save", 2, x::save);
        String saved = Build.sight(x);
        x.ship(0);
        x.pass(3);
        x.recall(4);
        Build.label(x, "hh");
        x.fill(0, 0, 1, 9);
        Build.type(x, "abc");
        check.due("56 restore", 2, x::restore);
        check.due("56 the state", saved, () -> Build.sight(x));
        check.due("56 the buffer is kept", 3, x::clearText);
        check.due("56 the next number", 2, () -> x.fill(0, 0, 0, 3));
        check.due("56 restore again", 2, x::restore);
        check.due("56 the state again", saved, () -> Build.sight(x));
        x.ship(1);
        check.due("55 save replaces", 1, x::save);
        x.ship(0);
        check.due("56 the later one", 1, x::restore);
        check.due("56 its lot", 0, () -> x.lotAt(0));
        JarCannery y = new JarCannery();
        check.due("55 save of nothing", 0, y::save);
        y.addRaw();
        check.due("56 restore of nothing", 0, y::restore);
        check.due("56 no raw lot", 0, y::rawCount);
    }

    /** What was saved stands against all that takes its places afterwards. */
    private void promise55And56Overwritten() {
        JarCannery x = Build.raws(3);
        Build.label(x, "abba");
        x.mix(3, 10);
        x.fill(0, 0, 0, 5);
        x.pass(1);
        x.save();
        String saved = Build.sight(x);
        for (int step = 0; step < 4; step++) {
            x.undo();
        }
        check.due("54 undone down to the raw lots", "3 0 0 0 0 0 0 0 . . .", () -> Build.sight(x));
        check.due("54 the label's number again", 0, () -> Build.label(x, "ab"));
        check.due("54 the batch's number again", 0, () -> x.mix(4, 20));
        check.due("54 the lot's number again", 0, () -> x.fill(0, 0, 0, 9));
        check.due("54 other things", "3 1 1 0 9 0 0 0 . . . b20/001 lab #0:9,0,20,0", () -> Build.sight(x));
        x.recall(0);
        x.restore();
        check.due("56 all as saved", saved, () -> Build.sight(x));
        check.refused("9 the restored label", IllegalStateException.class, () -> Build.label(x, "abba"));
        check.due("9 one that is gone", 1, () -> Build.label(x, "ab"));
        x.undo();
        check.due("9 once more", 1, () -> Build.label(x, "ab"));
    }

    private void promise56Undo() {
        JarCannery x = Build.lots(1);
        x.save();
        x.ship(0);
        x.restore();
        check.refused("56 nothing can be undone", IllegalStateException.class, x::undo);
        x.pass(1);
        check.due("56 what comes later can", 0, x::undo);
        x.save();
        x.pass(1);
        x.pass(1);
        check.due("55 saving keeps what can be undone", 1, x::undo);
    }
}
