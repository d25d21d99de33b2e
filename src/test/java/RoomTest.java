import java.lang.reflect.Array;
import java.lang.reflect.Field;
import java.lang.reflect.Modifier;
import java.util.ArrayDeque;
import java.util.Collections;
import java.util.Deque;
import java.util.IdentityHashMap;
import java.util.Set;

/** All calls of a run live in one room: what an object holds is little, and no call makes it more. */
public final class RoomTest {
    /** A thousand objects of a run would still leave most of the room. */
    private static final int MOST_OBJECTS = 60;
    private static final int MOST_PLACES = 1000;
    private static final String TEXT = "n8;k4;b1,a;k5;b9";

    private record Room(int objects, int places) {
    }

    public static void main(String[] args) throws Exception {
        LoadCouncil x = new LoadCouncil();
        Room first = room(x);
        Check.due("objects " + first, first.objects() <= MOST_OBJECTS ? 1 : 0, 1);
        Check.due("fields and elements " + first, first.places() <= MOST_PLACES ? 1 : 0, 1);
        Check.due("of an empty one", room(new Object()).objects(), 1);
        for (int i = 0; i < TEXT.length(); i++) {
            tell(x, i);
            ask(x);
            Check.due("as much as at first, round " + i, room(x).equals(first) ? 1 : 0, 1);
        }
        Check.due("letters", x.wipe(), TEXT.length());
        Check.due("as much as at first, wiped", room(x).equals(first) ? 1 : 0, 1);
        Check.end();
    }

    private static void tell(LoadCouncil x, int i) {
        x.write(TEXT.charAt(i));
        x.fault();
        x.lay();
        x.ballot(1, 3);
        x.voters(0, 1 + i);
        x.approve(0, 1 + i % 7);
        x.seats(1 + i % 8);
        x.withdraw(i % 6, 1);
        x.prefer(i % 6);
        x.undo();
    }

    private static void ask(LoadCouncil x) {
        x.candidate(0, 3);
        x.vote(0, 2);
        x.member(0, 0);
        x.members(1);
        x.came(2, 1, 0);
        x.load(0, 1);
        x.greatest(1);
        x.agrees(3, 4);
        x.shorts(1, -1);
        x.joins(3, 1);
        x.matters(0);
        x.rather(0, 1, 0);
        x.decided(2);
        x.both(0, 1);
        x.count(6);
    }

    /** All objects and arrays that can be reached, and their fields and elements. */
    private static Room room(Object root) throws IllegalAccessException {
        Set<Object> seen = Collections.newSetFromMap(new IdentityHashMap<>());
        Deque<Object> open = new ArrayDeque<>();
        reach(root, seen, open);
        int places = 0;
        while (!open.isEmpty()) {
            Object next = open.remove();
            places += next.getClass().isArray() ? elements(next, seen, open) : fields(next, seen, open);
        }
        return new Room(seen.size(), places);
    }

    private static void reach(Object value, Set<Object> seen, Deque<Object> open) {
        if (value != null && seen.add(value)) {
            open.add(value);
        }
    }

    private static int elements(Object array, Set<Object> seen, Deque<Object> open) {
        int length = Array.getLength(array);
        if (!array.getClass().getComponentType().isPrimitive()) {
            for (int i = 0; i < length; i++) {
                reach(Array.get(array, i), seen, open);
            }
        }
        return length;
    }

    private static int fields(Object holder, Set<Object> seen, Deque<Object> open) throws IllegalAccessException {
        int count = 0;
        for (Field f : holder.getClass().getDeclaredFields()) {
            if (!Modifier.isStatic(f.getModifiers())) {
                count++;
                if (!f.getType().isPrimitive()) {
                    f.setAccessible(true);
                    reach(f.get(holder), seen, open);
                }
            }
        }
        return count;
    }
}
