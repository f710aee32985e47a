import java.util.ArrayList;
import java.util.List;
import java.util.function.BiConsumer;
import java.util.function.Supplier;
import java.util.function.ToLongFunction;

/**
 * Two courts told the same, the first of which hears one call more: if nothing happened by it, no
 * later call may tell them apart. What can't be asked for straight (the tape's bytes, the sheet, the
 * suit, trusts, days on which things were told) is drawn out by calls that use it.
 */
final class Twins {
    // Each on twins of its own, so that a court hears no more than 512 calls.
    private static final List<BiConsumer<SalvageCourt, List<Long>>> PROBES = List.of(Twins::counts,
            Twins::tale, Twins::spans, Twins::trusts, Twins::worth, Twins::judgement, Twins::anotherDay,
            Twins::suitAndSheet, Twins::tape, Twins::roomForMore, Twins::roomForText);

    private Twins() {
    }

    /** The call answers as is due, and nothing happens. */
    static void nothingHappens(String name, Supplier<SalvageCourt> maker,
            ToLongFunction<SalvageCourt> call, long due) {
        Due.due(name + ", court " + maker, call.applyAsLong(maker.get()), due);
        Due.due(name + " does something, court " + maker, somethingHappens(maker, call), false);
    }

    /** Whether any later call shows that the call was made. */
    static boolean somethingHappens(Supplier<SalvageCourt> maker, ToLongFunction<SalvageCourt> call) {
        for (BiConsumer<SalvageCourt, List<Long>> probe : PROBES) {
            SalvageCourt one = maker.get();
            SalvageCourt other = maker.get();
            call.applyAsLong(one);
            List<Long> told = new ArrayList<>();
            List<Long> wanted = new ArrayList<>();
            probe.accept(one, told);
            probe.accept(other, wanted);
            if (!told.equals(wanted)) {
                return true;
            }
        }
        return false;
    }

    private static void counts(SalvageCourt x, List<Long> told) {
        for (int what = 0; what < 8; what++) {
            told.add((long) x.count(what));
        }
    }

    private static void tale(SalvageCourt x, List<Long> told) {
        for (int i = 0; i < 41; i++) {
            told.add((long) x.believed(i));
            told.add((long) x.quarrels(i));
        }
        told.add((long) x.quarrel());
    }

    private static void spans(SalvageCourt x, List<Long> told) {
        for (int a = 0; a < 16; a++) {
            for (int b = a + 1; b < 16; b++) {
                told.add((long) x.spans(a, b, (a + b) % 2));
            }
        }
    }

    private static void trusts(SalvageCourt x, List<Long> told) {
        for (int log = 0; log < 6; log++) {
            told.add((long) x.trust(log, log));
        }
        for (int i = 0; i < 40; i++) {
            told.add((long) x.believed(i));
        }
    }

    private static void worth(SalvageCourt x, List<Long> told) {
        int[] days = {0, 5, 6, 7, 5000};
        for (int good = 0; good < 10; good++) {
            for (int known : days) {
                told.add((long) x.saved(good, known, 0));
                told.add((long) x.saved(good, known, 25));
                told.add((long) x.saved(good, known, 5000));
            }
        }
    }

    private static void judgement(SalvageCourt x, List<Long> told) {
        for (int what = 0; what < 6; what++) {
            told.add(x.judged(what));
        }
        for (int k = 0; k < 41; k++) {
            told.add((long) x.like(k));
        }
        for (int ship = 0; ship < 8; ship++) {
            for (int what = 0; what < 7; what++) {
                told.add(x.share(ship, what));
            }
            for (int k = 0; k < 5; k++) {
                told.add(x.hand(ship, k));
            }
        }
    }

    private static void anotherDay(SalvageCourt x, List<Long> told) {
        for (int known : new int[] {0, 5, 7}) {
            told.add((long) x.judge(known, 45));
            told.add(x.judged(1));
            told.add(x.judged(2));
            told.add(x.judged(3));
        }
        told.add((long) x.judge(5000, 5000));
        judgement(x, told);
    }

    /** A law and a case that bring out each mark of the suit, a ship that brings out the sheet. */
    private static void suitAndSheet(SalvageCourt x, List<Long> told) {
        told.add((long) x.ship(7, 0, 1, 0, 0, 0));
        x.says(4, 0, 1, 1, 1);
        x.value(1, 100000, 0, 0);
        x.earlier(1, 400, 0);
        x.earlier(30000, 500, 0);
        x.end(0);
        Due.tellLaw(x, "weigh danger 32;weigh skill 16;weigh labour 8;weigh weather 4;weigh worth 2;"
                + "like 1;give mean;life 1;", 5000);
        told.add((long) x.judge(5000, 5000));
        judgement(x, told);
    }

    private static void tape(SalvageCourt x, List<Long> told) {
        told.add((long) x.law(5000));
        told.add((long) x.count(5));
        told.add((long) x.count(7));
        told.add((long) x.judge(5000, 5000));
        for (int what = 0; what < 6; what++) {
            told.add(x.judged(what));
        }
    }

    private static void roomForMore(SalvageCourt x, List<Long> told) {
        for (int i = 0; i < 41; i++) {
            told.add((long) x.says(0, 1, 2, 1, 1));
            told.add((long) x.earlier(0, 0, 0));
        }
        for (int i = 0; i < 61; i++) {
            told.add((long) x.value(0, 0, 0, 0));
        }
        for (int i = 0; i < 9; i++) {
            told.add((long) x.ship(1, 0, 0, 0, 0, 0));
        }
        for (int k = 0; k < 41; k++) {
            told.add(x.overrule(k, 0) ? 1L : 0L);
        }
    }

    private static void roomForText(SalvageCourt x, List<Long> told) {
        for (int i = 0; i < 16; i++) {
            told.add((long) x.feed(0, 0, 0, 0, 0));
        }
        for (int i = 0; i < 7; i++) {
            x.end(0);
            told.add((long) Due.tellLaw(x, "give mean;", 0));
        }
        told.add(x.clock(8) ? 1L : 0L);
    }
}
