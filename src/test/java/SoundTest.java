import java.lang.reflect.Field;
import java.util.List;

/** Promise 38 from its other side: no call makes a route unsound, so its state is bent from outside. */
public final class SoundTest {
    public static void main(String[] args) throws ReflectiveOperationException {
        discInTwoSlots();
        longQueue();
        lostCents();
        Checks.finish();
    }

    private static SelectoRoute route() {
        SelectoRoute x = new SelectoRoute();
        x.addDisc(0, 50, 0);
        x.addBox(30, 0);
        x.addBox(30, 0);
        x.insert(1, 'q');
        x.visit(1);
        x.change(1, 9, 0);
        Checks.holds("sound ahead of it", x.isSound());
        return x;
    }

    private static Object read(Object owner, String name) throws ReflectiveOperationException {
        Field field = owner.getClass().getDeclaredField(name);
        field.setAccessible(true);
        return field.get(owner);
    }

    private static void write(Object owner, String name, Object value) throws ReflectiveOperationException {
        Field field = owner.getClass().getDeclaredField(name);
        field.setAccessible(true);
        field.set(owner, value);
    }

    private static Object box(SelectoRoute x, int number) throws ReflectiveOperationException {
        return ((List<?>) read(x, "boxes")).get(number);
    }

    private static Object slot(SelectoRoute x, int box, int number) throws ReflectiveOperationException {
        return ((Object[]) read(box(x, box), "slots"))[number];
    }

    private static void discInTwoSlots() throws ReflectiveOperationException {
        SelectoRoute x = route();
        write(slot(x, 0, 0), "disc", read(slot(x, 1, 9), "disc"));
        Checks.holds("disc 0 is in two boxes", !x.isSound());
        write(slot(x, 0, 0), "disc", null);
        Checks.holds("disc 0 is in one box", x.isSound());
        write(slot(x, 1, 0), "disc", read(slot(x, 1, 9), "disc"));
        Checks.holds("disc 0 is in one box twice", !x.isSound());
    }

    @SuppressWarnings("unchecked")
    private static void longQueue() throws ReflectiveOperationException {
        SelectoRoute x = route();
        List<Object> queue = (List<Object>) read(box(x, 0), "queue");
        for (int i = 0; i < 8; i++) {
            queue.add(slot(x, 0, i));
        }
        Checks.holds("a queue of 8", x.isSound());
        queue.add(slot(x, 0, 9));
        Checks.holds("a queue of 9", !x.isSound());
    }

    private static void lostCents() throws ReflectiveOperationException {
        SelectoRoute x = route();
        write(x, "earned", x.getEarned() + 1);
        Checks.holds("a cent too much", !x.isSound());
        write(x, "earned", x.getEarned() - 2);
        Checks.holds("a cent too little", !x.isSound());
        write(box(x, 0), "landlordGot", 1);
        Checks.holds("the cent is with a landlord", x.isSound());
    }
}
