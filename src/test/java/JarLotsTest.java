import java.util.NoSuchElementException;

/** Promises 16 to 29. */
public final class JarLotsTest {
    private static final int[] STRANGE = {-1, 99, Integer.MAX_VALUE, Integer.MIN_VALUE};

    private final Check check = new Check();

    public static void main(String[] args) {
        JarLotsTest test = new JarLotsTest();
        test.promise16Fill();
        test.promise16Order();
        test.promise17Ship();
        test.promise17AllThatMovesUp();
        test.promise18Pass();
        test.promise18Edges();
        test.promise19Recall();
        test.promise20And21Positions();
        test.promise22To26Lots();
        test.promise27And28Days();
        test.promise29Ranks();
        test.check.finish();
    }

    private void promise16Fill() {
        JarCannery x = Build.batches(1, 20, 2, 5);
        check.due("16 fill of one batch", 0, () -> x.fill(0, 0, 0, 1));
        check.due("16 fill of two", 1, () -> x.fill(1, 0, 0, 9));
        check.due("38 filled", 10, x::filled);
        for (int lot = 2; lot < 8; lot++) {
            int number = lot;
            check.due("16 fill", number, () -> x.fill(0, 1, 0, 2));
        }
        check.refused("16 a ninth stored lot", IllegalStateException.class, () -> x.fill(0, 1, 0, 2));
        x.ship(7);
        check.due("16 a number is not given again", 8, () -> x.fill(0, 1, 0, 2));
        check.due("20 lotCount", 8, x::lotCount);
        check.due("16 pressure at first", 0, () -> x.pressureOf(8));
    }

    private void promise16Order() {
        JarCannery x = Build.batches(1, 20, 2, 5);
        x.recall(1);
        for (int bad : new int[] {-1, 2, 6, Integer.MAX_VALUE, Integer.MIN_VALUE}) {
            check.refused("16 first " + bad, IndexOutOfBoundsException.class, () -> x.fill(bad, 0, 0, 1));
            check.refused("16 second " + bad, IndexOutOfBoundsException.class, () -> x.fill(0, bad, 0, 0));
            check.refused("16 label " + bad, IndexOutOfBoundsException.class, () -> x.fill(1, 1, bad, 10));
        }
        check.refused("16 label 1", IndexOutOfBoundsException.class, () -> x.fill(0, 0, 1, 1));
        for (int bad : new int[] {0, -1, 10, Integer.MAX_VALUE, Integer.MIN_VALUE}) {
            check.refused("16 jars " + bad, IllegalArgumentException.class, () -> x.fill(0, 1, 0, bad));
        }
        check.refused("16 first is faulty", UnsupportedOperationException.class, () -> x.fill(1, 0, 0, 1));
        check.refused("16 second is faulty", UnsupportedOperationException.class, () -> x.fill(0, 1, 0, 1));
        for (int lot = 0; lot < 8; lot++) {
            x.fill(0, 0, 0, 1);
        }
        check.refused("16 full and faulty", IllegalStateException.class, () -> x.fill(1, 0, 0, 1));
        check.refused("16 full and no jars", IllegalArgumentException.class, () -> x.fill(0, 0, 0, 0));
        check.refused("16 full and no batch", IndexOutOfBoundsException.class, () -> x.fill(2, 0, 0, 1));
        check.due("38 filled", 8, x::filled);
    }

    private void promise17Ship() {
        JarCannery x = Build.lots(3, 4, 5);
        check.due("17 ship(1)", 4, () -> x.ship(1));
        check.refused("17 ship(1) again", NoSuchElementException.class, () -> x.ship(1));
        check.refused("17 ship(3)", NoSuchElementException.class, () -> x.ship(3));
        for (int lot : STRANGE) {
            check.refused("17 ship " + lot, NoSuchElementException.class, () -> x.ship(lot));
        }
        check.due("17 the others stay", "6 1 1 0 12 4 0 0 . . . . . . b20/100000 labba #0:3,0,20,0 #2:5,0,20,0",
                () -> Build.sight(x));
    }

    private void promise17AllThatMovesUp() {
        JarCannery x = Build.batches(1, 20, 2, 18, 4, 16);
        Build.label(x, "h");
        for (int lot = 0; lot < 8; lot++) {
            x.fill(lot % 3, lot % 2, lot % 2, lot + 1);
        }
        x.pass(3);
        x.ship(2);
        x.ship(5);
        check.due("17 the others move up", "6 3 2 3 36 9 0 0 . . . . . . b20/100000 b18/010000 b16/001000 labba lh"
                + " #0:1,0,20,3 #1:2,1,18,9 #3:4,1,19,6 #4:5,0,19,6 #6:7,0,20,3 #7:8,1,18,9", () -> Build.sight(x));
        int[] order = {1, 7, 3, 4, 0, 6};
        for (int rank = 0; rank < order.length; rank++) {
            int asked = rank;
            check.due("29 rank " + rank, order[rank], () -> x.lotByPressure(asked));
        }
        check.due("16 the next number", 8, () -> x.fill(2, 2, 0, 1));
        check.due("16 and one more", 9, () -> x.fill(2, 2, 0, 1));
        check.due("25 the pressure of the first", 0, () -> x.pressureOf(8));
        check.due("25 the pressure of the second", 0, () -> x.pressureOf(9));
    }

    private void promise18Pass() {
        JarCannery x = Build.batches(1, 20, 1, 1, 1, 11);
        x.fill(0, 0, 0, 1);
        x.fill(1, 1, 0, 2);
        x.fill(2, 2, 0, 3);
        check.due("18 two days", 0, () -> x.pass(2));
        check.due("18 the pressure of 20", 2, () -> x.pressureOf(0));
        check.due("18 the pressure of 1", 40, () -> x.pressureOf(1));
        check.due("18 the pressure of 11", 20, () -> x.pressureOf(2));
        check.due("18 the third day", 1, () -> x.pass(1));
        check.due("42 spoiled", 2, x::spoiled);
        check.refused("18 the lot is gone", NoSuchElementException.class, () -> x.jarsOf(1));
        check.due("18 the next two", 0, () -> x.pass(2));
        check.due("18 the sixth day", 1, () -> x.pass(1));
        check.due("42 spoiled", 5, x::spoiled);
        check.due("37 dayCount", 6, x::dayCount);
        check.due("18 thirty days", 0, () -> x.pass(30));
        check.due("18 until the sixtieth", 1, () -> x.pass(30));
        check.due("37 dayCount", 66, x::dayCount);
        check.due("18 none is left", 0, x::lotCount);
    }

    private void promise18Edges() {
        JarCannery x = Build.batches(1, 1);
        for (int days : new int[] {0, -1, 31, Integer.MAX_VALUE, Integer.MIN_VALUE}) {
            check.refused("18 days " + days, IllegalArgumentException.class, () -> x.pass(days));
        }
        check.due("37 dayCount after refusals", 0, x::dayCount);
        for (int lot = 0; lot < 8; lot++) {
            x.fill(0, 0, 0, 9);
        }
        check.due("18 all pop", 8, () -> x.pass(30));
        check.due("42 spoiled", 72, x::spoiled);
        check.due("18 a day without lots", 0, () -> x.pass(1));
        check.due("37 dayCount", 31, x::dayCount);
    }

    private void promise19Recall() {
        JarCannery x = Build.batches(1, 20, 6, 20, 8, 20);
        x.fill(0, 0, 0, 1);
        x.fill(1, 0, 0, 2);
        x.fill(2, 1, 0, 3);
        x.fill(2, 2, 0, 4);
        check.due("19 recall(1)", 2, () -> x.recall(1));
        check.due("41 recalled", 5, x::recalled);
        check.due("19 the others stay", 4, () -> x.jarsOf(3));
        check.due("21 lotAt(1)", 3, () -> x.lotAt(1));
        check.refused("19 again", IllegalStateException.class, () -> x.recall(1));
        check.due("19 one of the same batch", 0, () -> x.recall(2));
        check.due("19 one that nothing contains", 0, () -> x.recall(5));
        check.due("6 it is faulty", true, () -> x.isFaulty(5));
        for (int raw : new int[] {-1, 6, 32, Integer.MAX_VALUE, Integer.MIN_VALUE}) {
            check.refused("19 raw lot " + raw, IndexOutOfBoundsException.class, () -> x.recall(raw));
        }
        check.due("20 lotCount", 2, x::lotCount);
    }

    private void promise20And21Positions() {
        JarCannery x = Build.lots(1, 2, 3, 4);
        x.ship(1);
        check.due("20 lotCount", 3, x::lotCount);
        check.due("21 lotAt(0)", 0, () -> x.lotAt(0));
        check.due("21 lotAt(1)", 2, () -> x.lotAt(1));
        check.due("21 lotAt(2)", 3, () -> x.lotAt(2));
        check.refused("21 lotAt(3)", IndexOutOfBoundsException.class, () -> x.lotAt(3));
        for (int position : STRANGE) {
            check.refused("21 lotAt " + position, IndexOutOfBoundsException.class, () -> x.lotAt(position));
        }
    }

    private void promise22To26Lots() {
        JarCannery x = Build.batches(1, 20, 6, 5);
        Build.label(x, "h");
        x.fill(0, 0, 0, 1);
        x.fill(1, 0, 1, 7);
        x.pass(2);
        check.due("22 jarsOf", 7, () -> x.jarsOf(1));
        check.due("23 labelOf", 1, () -> x.labelOf(1));
        check.due("24 strengthOfLot of one batch", 20, () -> x.strengthOfLot(0));
        check.due("24 strengthOfLot, rounded down", 12, () -> x.strengthOfLot(1));
        check.due("25 pressureOf", 18, () -> x.pressureOf(1));
        check.due("26 lotContains(0, 0)", true, () -> x.lotContains(0, 0));
        check.due("26 lotContains(0, 1)", false, () -> x.lotContains(0, 1));
        check.due("26 lotContains(1, 0)", true, () -> x.lotContains(1, 0));
        check.due("26 lotContains(1, 2)", true, () -> x.lotContains(1, 2));
        check.due("26 lotContains(1, 3)", false, () -> x.lotContains(1, 3));
        for (int raw : new int[] {-1, 6, 32, Integer.MAX_VALUE, Integer.MIN_VALUE}) {
            check.refused("26 raw lot " + raw, IndexOutOfBoundsException.class, () -> x.lotContains(1, raw));
        }
        x.ship(0);
        for (int lot : new int[] {0, -1, 2, 99, Integer.MAX_VALUE, Integer.MIN_VALUE}) {
            check.refused("22 lot " + lot, NoSuchElementException.class, () -> x.jarsOf(lot));
            check.refused("23 lot " + lot, NoSuchElementException.class, () -> x.labelOf(lot));
            check.refused("24 lot " + lot, NoSuchElementException.class, () -> x.strengthOfLot(lot));
            check.refused("25 lot " + lot, NoSuchElementException.class, () -> x.pressureOf(lot));
            check.refused("26 lot " + lot, NoSuchElementException.class, () -> x.lotContains(lot, 0));
            check.refused("26 lot first " + lot, NoSuchElementException.class, () -> x.lotContains(lot, 6));
            check.refused("27 lot " + lot, NoSuchElementException.class, () -> x.daysUntilPop(lot));
            check.refused("28 lot " + lot, NoSuchElementException.class, () -> x.daysByDivision(lot));
        }
    }

    private void promise27And28Days() {
        for (int strength = 1; strength <= 20; strength++) {
            JarCannery x = Build.batches(1, strength);
            x.fill(0, 0, 0, 1);
            int rise = 21 - strength;
            for (int day = 0; day * rise < 60; day++) {
                int want = (int) Math.ceil((60 - day * rise) / (double) rise);
                check.due("27 strength " + strength + " day " + day, want, () -> x.daysUntilPop(0));
                check.due("28 strength " + strength + " day " + day, want, () -> x.daysByDivision(0));
                check.due("27 asking pops nothing", 1, x::lotCount);
                check.due("18 strength " + strength + " day " + day, want == 1 ? 1 : 0, () -> x.pass(1));
            }
        }
    }

    private void promise29Ranks() {
        JarCannery x = Build.batches(1, 20, 2, 1);
        x.fill(0, 0, 0, 1);
        x.pass(1);
        x.fill(0, 0, 0, 1);
        x.fill(1, 1, 0, 1);
        x.fill(0, 0, 0, 1);
        x.pass(1);
        int[] order = {2, 0, 1, 3};
        for (int rank = 0; rank < order.length; rank++) {
            int asked = rank;
            check.due("29 rank " + rank, order[rank], () -> x.lotByPressure(asked));
        }
        check.refused("29 rank 4", NoSuchElementException.class, () -> x.lotByPressure(4));
        for (int rank : STRANGE) {
            check.refused("29 rank " + rank, NoSuchElementException.class, () -> x.lotByPressure(rank));
        }
        x.ship(2);
        check.due("29 the first is gone", 0, () -> x.lotByPressure(0));
    }
}
