/** Promises 1 to 8. */
public final class BrineTest {
    private final Check check = new Check();

    public static void main(String[] args) {
        BrineTest test = new BrineTest();
        test.promise1NewObject();
        test.promise2And4AddRaw();
        test.promise3And5Mix();
        test.promise3Order();
        test.promise6IsFaulty();
        test.promise7StrengthOf();
        test.promise8BatchContains();
        test.check.finish();
    }

    private void promise1NewObject() {
        JarCannery x = new JarCannery();
        check.due("1 sight of a new object", "0 0 0 0 0 0 0 0", () -> Build.sight(x));
        check.due("1 lotCount", 0, x::lotCount);
        check.due("1 stored", 0, x::stored);
        check.due("1 clearText", 0, x::clearText);
        check.due("1 isConsistent", true, x::isConsistent);
        check.due("1 fewestTests", 0, x::fewestTests);
        check.refused("1 lineAt", IndexOutOfBoundsException.class, () -> x.lineAt(0));
        check.refused("1 undo", IllegalStateException.class, x::undo);
        check.refused("1 restore", IllegalStateException.class, x::restore);
    }

    private void promise2And4AddRaw() {
        JarCannery x = new JarCannery();
        for (int raw = 0; raw < 6; raw++) {
            check.due("4 rawCount", raw, x::rawCount);
            check.due("2 addRaw", raw, x::addRaw);
        }
        check.refused("2 a seventh raw lot", IllegalStateException.class, x::addRaw);
        check.due("4 rawCount at the end", 6, x::rawCount);
    }

    private void promise3And5Mix() {
        JarCannery x = Build.raws(3);
        for (int set : new int[] {0, -1, 8, 9, 15, 64, Integer.MIN_VALUE, Integer.MAX_VALUE, -8}) {
            check.refused("3 mix of the set " + set, IllegalArgumentException.class, () -> x.mix(set, 1));
        }
        for (int strength : new int[] {0, -1, 21, Integer.MIN_VALUE, Integer.MAX_VALUE}) {
            check.refused("3 strength " + strength, IllegalArgumentException.class, () -> x.mix(1, strength));
        }
        check.due("5 batchCount after refusals", 0, x::batchCount);
        check.due("3 mix", 0, () -> x.mix(7, 1));
        check.due("3 mix of the same", 1, () -> x.mix(7, 1));
        check.due("3 mix with 20", 2, () -> x.mix(4, 20));
        check.due("5 batchCount", 3, x::batchCount);
        JarCannery full = Build.raws(6);
        check.due("3 mix of all six", 0, () -> full.mix(63, 10));
        check.refused("3 mix of a seventh", IllegalArgumentException.class, () -> full.mix(64, 10));
    }

    private void promise3Order() {
        JarCannery x = Build.raws(2);
        x.recall(1);
        check.refused("3 faulty", UnsupportedOperationException.class, () -> x.mix(3, 1));
        check.refused("3 faulty and strength 21", IllegalArgumentException.class, () -> x.mix(2, 21));
        for (int batch = 0; batch < 6; batch++) {
            x.mix(1, 5);
        }
        check.refused("3 a seventh batch", IllegalStateException.class, () -> x.mix(1, 5));
        check.refused("3 a seventh, faulty", IllegalStateException.class, () -> x.mix(2, 5));
        check.refused("3 a seventh, empty", IllegalArgumentException.class, () -> x.mix(0, 5));
        check.due("5 six batches", 6, x::batchCount);
    }

    private void promise6IsFaulty() {
        JarCannery x = Build.raws(2);
        check.due("6 not at first", false, () -> x.isFaulty(1));
        x.recall(1);
        check.due("6 after the recall", true, () -> x.isFaulty(1));
        check.due("6 the other one", false, () -> x.isFaulty(0));
        x.addRaw();
        check.due("6 one added later", false, () -> x.isFaulty(2));
        for (int raw : new int[] {-1, 3, 32, 33, Integer.MAX_VALUE, Integer.MIN_VALUE}) {
            check.refused("6 raw lot " + raw, IndexOutOfBoundsException.class, () -> x.isFaulty(raw));
        }
    }

    private void promise7StrengthOf() {
        JarCannery x = Build.raws(1);
        x.mix(1, 20);
        x.mix(1, 1);
        check.due("7 strengthOf(0)", 20, () -> x.strengthOf(0));
        check.due("7 strengthOf(1)", 1, () -> x.strengthOf(1));
        for (int batch : new int[] {-1, 2, 6, Integer.MAX_VALUE, Integer.MIN_VALUE}) {
            check.refused("7 batch " + batch, IndexOutOfBoundsException.class, () -> x.strengthOf(batch));
        }
    }

    private void promise8BatchContains() {
        JarCannery x = Build.raws(3);
        x.mix(5, 9);
        check.due("8 batchContains(0, 0)", true, () -> x.batchContains(0, 0));
        check.due("8 batchContains(0, 1)", false, () -> x.batchContains(0, 1));
        check.due("8 batchContains(0, 2)", true, () -> x.batchContains(0, 2));
        for (int bad : new int[] {-1, 3, 32, Integer.MAX_VALUE, Integer.MIN_VALUE}) {
            check.refused("8 raw lot " + bad, IndexOutOfBoundsException.class, () -> x.batchContains(0, bad));
            check.refused("8 batch " + bad, IndexOutOfBoundsException.class, () -> x.batchContains(bad, 0));
        }
        x.recall(0);
        check.due("8 a faulty one is still in it", true, () -> x.batchContains(0, 0));
    }
}
