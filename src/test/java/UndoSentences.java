import java.util.ArrayList;
import java.util.List;

/** The sentences of promises 54 to 56: undo and snapshots. */
final class UndoSentences {
    private UndoSentences() {
    }

    static void tell(Sentences s) {
        undo(s);
        save(s);
        restore(s);
    }

    private static void undo(Sentences s) {
        Sentence last = s.promise(54, "Undoes the last modification that can be undone.")
            .steps((x, check) -> {
                // Far more modifications than can be undone, so that what is kept of them comes around more than once.
                List<String> sights = new ArrayList<>();
                for (int step = 0; step < 29; step++) {
                    sights.add(Build.sight(x));
                    x.pass(1 + step % 30);
                }
                for (int step = 28; step > 20; step--) {
                    int undone = step;
                    x.undo();
                    check.due("back to step " + step, sights.get(undone), () -> Build.sight(x));
                }
                x.addRaw();
                x.pass(3);
                x.undo();
                check.due("the last of two later ones", 1, x::rawCount);
                x.undo();
                check.due("and the one before it", sights.get(21), () -> Build.sight(x));
            });
        last.on(JarLotSentences::unlikeLots).steps((x, check) -> {
            List<String> sights = new ArrayList<>();
            for (int step = 0; step < 6; step++) {
                sights.add(Build.sight(x));
                change(x, step);
            }
            for (int step = 5; step >= 0; step--) {
                int undone = step;
                x.undo();
                check.due("change " + step + " is undone", sights.get(undone), () -> Build.sight(x));
            }
        });
        s.promise(54, "Returns the number of modifications that can still be undone.")
            .on(() -> Build.raws(1)).answers(0, "undo of the only one", JarCannery::undo)
            .on(() -> Build.raws(2)).answers(1, "undo of two", JarCannery::undo)
            .on(() -> Build.changed(Build.raws(6), x -> x.recall(0))).answers(6, "undo of seven", JarCannery::undo)
            .on(UndoSentences::days8).answers(7, "undo of eight", JarCannery::undo)
            .on(() -> Build.changed(days8(), x -> x.pass(1))).answers(7, "undo of nine", JarCannery::undo)
            .steps((x, check) -> {
                for (int left = 7; left >= 0; left--) {
                    check.due("one after the other", left, x::undo);
                }
                x.pass(1);
                check.due("one later", 0, x::undo);
            });
        s.promise(54, "Throws `IllegalStateException` if there is none")
            .refuses("undo of a new object", JarCannery::undo)
            .on(() -> Build.changed(Build.raws(1), JarCannery::undo)).refuses("undo of one, again", JarCannery::undo)
            .on(() -> Build.changed(new JarCannery(), x -> Check.answer(() -> x.pass(0))))
            .refuses("undo of a refused call", JarCannery::undo)
            .on(() -> Build.changed(days8(), x -> {
                x.pass(1);
                for (int step = 0; step < 8; step++) {
                    x.undo();
                }
            })).refuses("undo of a ninth", JarCannery::undo);
    }

    private static void change(JarCannery x, int step) {
        switch (step) {
            case 0 -> x.ship(0);
            case 1 -> x.mix(6, 15);
            case 2 -> x.fill(3, 3, 2, 9);
            case 3 -> Build.execute(x, "ship 2;raw;mix 8 3;fill 4 3 0 8");
            case 4 -> x.recall(1);
            default -> x.pass(2);
        }
    }

    private static JarCannery days8() {
        JarCannery x = new JarCannery();
        for (int day = 0; day < 8; day++) {
            x.pass(1);
        }
        return x;
    }

    private static void save(Sentences s) {
        s.promise(55, "Saves the state as a snapshot, which replaces an earlier snapshot.")
            .answers(0, "save of a new object", JarCannery::save)
            .on(() -> Build.lots(1, 2, 3, 4, 5, 6, 7, 8)).answers(8, "save of eight lots", JarCannery::save)
            .on(() -> Build.lots(1, 2)).steps((x, check) -> {
                x.save();
                x.ship(0);
                String sight = Build.sight(x);
                check.due("save again", 1, x::save);
                x.ship(1);
                x.pass(7);
                check.due("restore", 1, x::restore);
                check.due("the later one", sight, () -> Build.sight(x));
            });
    }

    private static void restore(Sentences s) {
        Sentence kept = s.promise(56, "Restores the snapshot, which is kept.")
            .on(() -> Build.lots(1, 2)).steps((x, check) -> {
                x.save();
                String sight = Build.sight(x);
                for (int time = 0; time < 3; time++) {
                    x.ship(time % 2);
                    Build.label(x, "hh");
                    x.recall(1);
                    x.mix(4, 4);
                    check.due("restore", 2, x::restore);
                    check.due("the state", sight, () -> Build.sight(x));
                    check.due("the next number", 2, () -> x.fill(0, 0, 0, 1));
                }
            });
        kept.on(JarLotSentences::unlikeLots).steps((x, check) -> {
            x.save();
            String saved = Build.sight(x);
            for (int step = 0; step < 8; step++) {
                x.undo();
            }
            check.due("undone down to a label", "1 0 3 0 0 0 0 0 . la lb lc", () -> Build.sight(x));
            x.recall(0);
            x.addRaw();
            x.mix(2, 7);
            x.fill(0, 0, 2, 9);
            x.restore();
            check.due("all as saved", saved, () -> Build.sight(x));
        });
        kept.on(() -> Build.labels("abc", "hh")).steps((x, check) -> {
            x.save();
            x.undo();
            check.due("another label with that number", 1, () -> Build.label(x, "defgh"));
            x.restore();
            check.due("the labels as saved", "0 0 2 0 0 0 0 0 labc lhh", () -> Build.sight(x));
        });
        s.promise(56, "Afterwards nothing can be undone.")
            .on(() -> Build.changed(days8(), x -> {
                x.save();
                x.restore();
            })).answers("throws IllegalStateException", "undo", JarCannery::undo)
            .on(() -> Build.changed(new JarCannery(), x -> {
                x.save();
                x.pass(3);
                x.restore();
            })).answers("throws IllegalStateException", "undo", JarCannery::undo)
            .steps((x, check) -> {
                x.pass(1);
                check.due("undo of what came later", 0, x::undo);
            });
        s.promise(56, "Throws `IllegalStateException` if there is no snapshot")
            .refuses("restore of a new object", JarCannery::restore)
            .on(() -> Build.lots(1)).refuses("restore", JarCannery::restore)
            .on(() -> Build.changed(new JarCannery(), JarCannery::save)).answers(0, "restore of nothing", JarCannery::restore)
            .on(() -> Build.changed(Build.lots(1), x -> {
                x.save();
                x.undo();
            })).answers(1, "restore after an undo", JarCannery::restore);
    }
}
