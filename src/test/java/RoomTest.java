import java.lang.management.ManagementFactory;
import java.lang.reflect.Array;
import java.lang.reflect.Field;
import java.lang.reflect.Modifier;
import java.util.IdentityHashMap;
import java.util.Map;

/** What an object holds stays small and is made by its constructor alone: no call makes anything. */
public final class RoomTest {
    private static final int MOST_OBJECTS = 200, MOST_ELEMENTS = 12000;

    private final Map<Object, Boolean> seen = new IdentityHashMap<>();
    private int elements = 0;

    public static void main(String[] args) throws Exception {
        TurnedCards x = new TurnedCards();
        RoomTest first = held(x);
        Due.holds("objects and arrays, " + first.seen.size() + ": few", first.seen.size() <= MOST_OBJECTS);
        Due.holds("fields and elements, " + first.elements + ": few", first.elements <= MOST_ELEMENTS);
        allCalls(x);
        RoomTest then = held(x);
        Due.is("objects and arrays behind all calls", then.seen.size(), first.seen.size());
        Due.is("fields and elements behind all calls", then.elements, first.elements);
        noCallMakesAnything();
        Due.end();
    }

    private static RoomTest held(Object root) throws Exception {
        RoomTest room = new RoomTest();
        room.look(root);
        return room;
    }

    private void look(Object one) throws Exception {
        if (one == null || seen.put(one, true) != null) {
            return;
        }
        Class<?> kind = one.getClass();
        if (kind.isArray()) {
            elements += Array.getLength(one);
            for (int i = 0; i < Array.getLength(one) && !kind.getComponentType().isPrimitive(); i++) {
                look(Array.get(one, i));
            }
            return;
        }
        for (Field f : kind.getDeclaredFields()) {
            if (!Modifier.isStatic(f.getModifiers())) {
                elements++;
                if (!f.getType().isPrimitive()) {
                    f.setAccessible(true);
                    look(f.get(one));
                }
            }
        }
    }

    private static void noCallMakesAnything() {
        com.sun.management.ThreadMXBean bean =
                (com.sun.management.ThreadMXBean) ManagementFactory.getThreadMXBean();
        TurnedCards x = new TurnedCards();
        long none = Long.MAX_VALUE;
        long made = Long.MAX_VALUE;
        // The least of several times: at first what is used is loaded, which makes things too.
        for (int times = 0; times < 5; times++) {
            long before = bean.getCurrentThreadAllocatedBytes();
            none = Math.min(none, bean.getCurrentThreadAllocatedBytes() - before);
            before = bean.getCurrentThreadAllocatedBytes();
            allCalls(x);
            made = Math.min(made, bean.getCurrentThreadAllocatedBytes() - before);
        }
        Due.holds("all calls make " + made + " bytes, as many as no call, " + none, made == none);
    }

    /** The dearest band: sixteen cards, sixty picks, thirty rows. */
    private static void allCalls(TurnedCards x) {
        x.cards(16);
        for (int c = 0; c < 16; c++) {
            x.thread(c, 3, c % 8);
            x.way(c, c % 2);
            x.pack(c, c % 4);
            x.paint(c, c, 2);
            x.paint(29, c, c % 4);
        }
        x.rule(0, 30);
        x.rule(1, 9);
        x.weave();
        x.flip(0);
        x.unweave();
        while (x.count(1) < 60) {
            x.pick(0x5555, 0x0aaa);
            x.packs(0, 1, 2, 0);
        }
        x.pick(0, 0);
        for (int c = -1; c <= 16; c++) {
            askOfCard(x, c);
        }
        for (int what = -1; what <= 5; what++) {
            x.is(what);
            x.count(what);
            x.going(what, 3);
            x.evens(what);
        }
        x.repeat();
        x.rows();
        x.worst(false);
        x.worst(true);
        x.unlike();
        x.weave();
    }

    private static void askOfCard(TurnedCards x, int c) {
        for (int i = -1; i <= 4; i++) {
            x.about(c, i);
            x.at(c, i);
            x.threading(c, i);
            x.wrong(c, i);
            x.turning(c, i);
        }
        for (int p = -1; p <= 60; p++) {
            x.turn(p, c);
            x.shows(p, c, false);
            x.shown(p, c, true);
            x.slant(p, c);
            x.many(p, 3);
        }
        x.longest(c);
        x.idles(c);
        x.behind(c);
        x.quarrel(c);
        x.wrongs(c);
    }
}
