import java.lang.reflect.Array;
import java.lang.reflect.Field;
import java.lang.reflect.Modifier;
import java.util.ArrayDeque;
import java.util.Collections;
import java.util.Deque;
import java.util.IdentityHashMap;
import java.util.Set;

/** "10 are known, older ones are lost": what an object holds on to does not grow with the changes that are made. */
public final class KeptRoomTest {
    private static final int FEW = 40;
    private static final int MANY = 200;

    private static final Checks is = new Checks();

    public static void main(String[] args) throws IllegalAccessException {
        is.about("10 are known, older ones are lost");
        changes();
        changesBehindImages();
        is.about("UNDONE: .. all is as ahead of it");
        undone();
        is.about("Read anew: .. nothing .. to be UNDONE, IMAGES are gone");
        readAnew();
        is.end();
    }

    private static PetalWheels made() {
        return Checks.told("r12;w3;p500;");
    }

    /** Turned and turned, so that no change makes more or less than another. */
    private static void turn(PetalWheels x, int times) {
        for (int n = 0; n < times; n++) {
            x.spins(1);
        }
    }

    private static void changes() throws IllegalAccessException {
        PetalWheels x = made();
        turn(x, FEW);
        int few = held(x);
        turn(x, MANY);
        is.due("objects held behind " + MANY + " changes more", held(x), few);
        is.due("how many may be undone", x.count(4), 10);
    }

    /** What an image keeps does not grow, and is let go when it keeps something else. */
    private static void changesBehindImages() throws IllegalAccessException {
        PetalWheels x = made();
        turn(x, FEW);
        x.keep(0);
        turn(x, FEW);
        x.keep(1);
        turn(x, FEW);
        int few = held(x);
        turn(x, MANY);
        is.due("objects held beside two images", held(x), few);
        x.keep(0);
        turn(x, FEW);
        is.due("objects held when an image was kept anew", held(x), few);
    }

    private static void undone() throws IllegalAccessException {
        PetalWheels x = made();
        int first = held(x);
        turn(x, FEW);
        for (int left = 9; left >= 0; left--) {
            is.due("undo", x.undo(), left);
        }
        is.due("objects held when all was undone", held(x), first);
    }

    private static void readAnew() throws IllegalAccessException {
        PetalWheels x = made();
        int first = held(x);
        turn(x, FEW);
        x.keep(0);
        x.keep(1);
        Checks.type(x, "r12;w3;p500;");
        is.due("box", x.box(), 3);
        is.due("objects held when the text was read anew", held(x), first);
    }

    /** How many objects and arrays can be reached from that object, itself among them. */
    private static int held(Object from) throws IllegalAccessException {
        Set<Object> found = Collections.newSetFromMap(new IdentityHashMap<>());
        Deque<Object> open = new ArrayDeque<>();
        reach(from, found, open);
        while (!open.isEmpty()) {
            Object o = open.remove();
            if (o.getClass().isArray()) {
                for (int i = 0; !o.getClass().getComponentType().isPrimitive() && i < Array.getLength(o); i++) {
                    reach(Array.get(o, i), found, open);
                }
            } else {
                for (Field f : o.getClass().getDeclaredFields()) {
                    if (!Modifier.isStatic(f.getModifiers()) && !f.getType().isPrimitive()) {
                        f.setAccessible(true);
                        reach(f.get(o), found, open);
                    }
                }
            }
        }
        return found.size();
    }

    private static void reach(Object o, Set<Object> found, Deque<Object> open) {
        if (o != null && found.add(o)) {
            open.add(o);
        }
    }
}
