import java.util.ArrayList;
import java.util.List;
import java.util.function.Supplier;
import java.util.function.ToIntFunction;

/**
 * Two objects made alike, of which one is asked once more: whatever can be asked of both from then on, also what
 * could be undone and the images, must be the same. Shared by the tests; no test of its own.
 */
final class Twins {
    private Twins() {
    }

    static boolean staysAlike(Supplier<LastLaugh> made, ToIntFunction<LastLaugh> call) {
        LastLaugh asked = made.get();
        call.applyAsInt(asked);
        return allOf(asked).equals(allOf(made.get()));
    }

    /** All that can be known of an object: it is used up by it. */
    static List<Integer> allOf(LastLaugh x) {
        List<Integer> all = new ArrayList<>();
        look(x, all);
        for (int l = 0; l < x.told(3); l++) {
            all.add(x.tastes(l));
            all.add(x.sads(l, 0));
        }
        all.add(x.judge());
        for (int i = 0; i < 3; i++) {
            all.add(x.undo(1));
            look(x, all);
        }
        for (int i = 0; i < 2; i++) {
            all.add(x.goBack(i));
            look(x, all);
        }
        all.add(x.fault());
        all.add(x.hall());
        all.add(x.fault());
        return all;
    }

    private static void look(LastLaugh x, List<Integer> all) {
        for (int what = 0; what <= 13; what++) all.add(x.told(what));
        for (int l = 0; l < x.told(3); l++) {
            all.add(x.lord(l, 3));
            all.add(x.lord(l, 4));
        }
        for (int j = 0; j < x.told(4); j++) all.add(x.joke(j, 3));
        int seed = x.seed(0);
        x.seed(seed);
        all.add(seed);
    }
}
