import java.util.NoSuchElementException;

/** The two examples of the document, as they stand there. */
public final class ExamplesTest {
    public static void main(String[] args) {
        first();
        second();
        Checks.finish();
    }

    private static void first() {
        SelectoRoute x = new SelectoRoute();
        Checks.equal("addDisc", x.addDisc(17, 40, 0), 0);
        Checks.equal("addBox", x.addBox(50, 7), 0);
        Checks.equal("visit", x.visit(0), 0);
        Checks.equal("change", x.change(0, 4, 0), -1);
        Checks.equal("pull", x.pull(0), 60);
        Checks.equal("insert", x.insert(0, 'd'), 2);
        Checks.equal("press", x.press(0, 4), 1);
        Checks.equal("play", x.play(0), 'p');
        Checks.equal("pass", x.pass(), 1);
        Checks.equal("getWheel", x.getWheel(0, 4), 8);
        Checks.equal("getCents", x.getCents(0), 45);
        Checks.equal("pull", x.pull(0), 57);
    }

    private static void second() {
        SelectoRoute x = new SelectoRoute();
        Checks.equal("addBox", x.addBox(0, 0), 0);
        Checks.equal("insert", x.insert(0, 's'), 6);
        Checks.equal("getCents", x.getCents(0), 0);
        Checks.equal("ask", x.ask(0, 12), 1);
        Checks.equal("mostAsked", x.mostAsked(0), 12);
        Checks.fails("least", NoSuchElementException.class, () -> x.least(0));
        Checks.equal("getMinutes", x.getMinutes(), 600);
    }
}
