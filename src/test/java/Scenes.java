import java.util.ArrayList;
import java.util.List;
import java.util.function.Supplier;
import java.util.function.ToLongFunction;

/** Objects in a state that is known, for tests at the borders, and all that can be told of one. */
final class Scenes {
    /** The parts of a state that decide what is refused: things, pictures and images as bits. */
    record Scene(String name, Supplier<StereoWar> make, int things, int pictures, int signs, boolean fault,
        boolean wrongPair, int images) {
    }

    static final Scene NEW = new Scene("new", StereoWar::new, 0, 0, 0, false, false, 0);
    static final Scene SOME = new Scene("some", Scenes::some, 18, 517, 3, false, false, 2);
    static final Scene FULL = new Scene("full", () -> full("abcdefghij" + "/".repeat(50)), 63, 1023, 60, false, false, 3);
    static final Scene FAULTY = new Scene("faulty", () -> oneThing("aa/b"), 1, 3, 4, true, true, 1);
    static final Scene FAULTY_FULL =
        new Scene("faulty, full", () -> full("aa".repeat(29) + "/k"), 63, 1023, 60, true, true, 3);
    static final Scene WRONG = new Scene("wrong", () -> oneThing("ab/ba"), 1, 3, 5, false, true, 1);
    static final Scene WRONG_FULL = new Scene("wrong, full", () -> full("ij".repeat(30)), 63, 1023, 60, false, true, 3);
    static final List<Scene> ALL = List.of(NEW, SOME, FULL, FAULTY, FAULTY_FULL, WRONG, WRONG_FULL);

    private Scenes() {
    }

    /** Things 1 and 4, pictures 0 (shows 1), 2 (shows both) and 9 (shows none), image 1 of another state. */
    private static StereoWar some() {
        StereoWar war = new StereoWar();
        war.take(5, 0, 0);
        war.thing(0, 3, 3, 3);
        war.image(1);
        war.burn(5);
        war.leave(0);
        war.focus(7);
        war.thing(1, 50, -1, 3);
        war.thing(4, 60, 2, 20);
        war.take(0, 47, 5);
        war.retouch(0, 4, StereoWar.NONE);
        war.take(2, 50, 1);
        war.take(9, 99, 99);
        Check.album(war, "ca/");
        return war;
    }

    /** All things, all pictures, all signs, both images, each of another state. */
    private static StereoWar full(String album) {
        StereoWar war = new StereoWar();
        war.thing(2, 7, 7, 7);
        war.take(8, 10, 1);
        war.image(0);
        for (int thing = 0; thing < 6; thing++) {
            war.thing(thing, 30 + 8 * thing, thing - 3, 20 - thing);
        }
        for (int picture = 0; picture < 10; picture++) {
            war.take(picture, 44 + picture, picture % 4);
        }
        war.image(1);
        war.focus(19);
        war.thing(5, 71, 9, 18);
        war.retouch(3, 2, 60);
        war.retouch(4, 5, StereoWar.NONE);
        war.retouch(9, 0, 0);
        Check.album(war, album);
        return war;
    }

    private static StereoWar oneThing(String album) {
        StereoWar war = new StereoWar();
        war.image(0);
        war.thing(0, 50, 0, 20);
        war.take(0, 49, 0);
        war.take(1, 51, 99);
        Check.album(war, album);
        return war;
    }

    /** All that can be told of an object and of its images, in some 260 calls; the object is used up by it. */
    static List<Long> everything(StereoWar war) {
        List<Long> told = new ArrayList<>();
        tell(war, told);
        told.add((long) war.fault());
        for (int what = 0; what < 4; what++) {
            told.add((long) war.judge(what));
        }
        for (int what = 0; what < 6; what++) {
            told.add((long) war.kinds(what));
        }
        for (int k = 0; k < 2; k++) {
            told.add((long) war.restore(k));
            tell(war, told);
        }
        told.add((long) war.wipe());
        return told;
    }

    private static void tell(StereoWar war, List<Long> told) {
        for (int what = 0; what < 4; what++) {
            told.add((long) war.told(what));
        }
        for (int thing = 0; thing < 6; thing++) {
            for (int part = 0; part < 3; part++) {
                told.add((long) war.told(10 * (1 + thing) + part));
            }
        }
        for (int picture = 0; picture < 10; picture++) {
            for (int thing = 0; thing < 6; thing++) {
                told.add((long) war.told(100 * (1 + picture) + thing));
            }
        }
    }

    /** Whether a call on a scene's object leaves all that can be told as it was. */
    static boolean changesNothing(Scene scene, ToLongFunction<StereoWar> call) {
        StereoWar asked = scene.make().get();
        call.applyAsLong(asked);
        return everything(asked).equals(everything(scene.make().get()));
    }
}
