import java.util.NoSuchElementException;

/** Promises 30 to 32: songs that are asked for, and the slot that played least. */
public final class SongsTest {
    public static void main(String[] args) {
        ask();
        wrongSongs();
        mostAsked();
        songThatIsPutIn();
        least();
        Checks.finish();
    }

    private static void ask() {
        SelectoRoute x = new SelectoRoute();
        x.addBox(0, 0);
        x.addBox(0, 0);
        for (int i = 1; i <= 99; i++) {
            Checks.equal("asked", x.ask(0, 99), i);
        }
        Checks.fails("100 times", IllegalStateException.class, () -> x.ask(0, 99));
        Checks.equal("another song", x.ask(0, 0), 1);
        Checks.equal("another box", x.ask(1, 99), 1);
        x.pass();
        Checks.fails("a week later", IllegalStateException.class, () -> x.ask(0, 99));
    }

    private static void wrongSongs() {
        SelectoRoute x = new SelectoRoute();
        x.addBox(0, 0);
        Checks.fails("song 100", IllegalArgumentException.class, () -> x.ask(0, 100));
        Checks.fails("song -1", IllegalArgumentException.class, () -> x.ask(0, -1));
        Checks.outOfBounds("box 1", () -> x.ask(1, 0));
        Checks.outOfBounds("box -1, song -1", () -> x.ask(-1, -1));
        Checks.fails("none is asked for", NoSuchElementException.class, () -> x.mostAsked(0));
        Checks.outOfBounds("most asked in box 1", () -> x.mostAsked(1));
        Checks.outOfBounds("most asked in box -1", () -> x.mostAsked(-1));
    }

    private static void mostAsked() {
        SelectoRoute x = new SelectoRoute();
        x.addBox(0, 0);
        x.addBox(0, 0);
        x.ask(0, 50);
        Checks.equal("the only one", x.mostAsked(0), 50);
        x.ask(0, 70);
        Checks.equal("of like ones the lowest", x.mostAsked(0), 50);
        x.ask(0, 0);
        Checks.equal("of like ones the lowest", x.mostAsked(0), 0);
        x.ask(0, 99);
        x.ask(0, 99);
        Checks.equal("the most", x.mostAsked(0), 99);
        Checks.fails("the other box", NoSuchElementException.class, () -> x.mostAsked(1));
    }

    private static void songThatIsPutIn() {
        SelectoRoute x = new SelectoRoute();
        x.addDisc(5, 50, 0);
        x.addDisc(6, 50, 0);
        x.addBox(0, 0);
        x.addBox(0, 0);
        x.ask(0, 5);
        x.ask(0, 5);
        x.ask(0, 6);
        x.ask(1, 5);
        x.visit(0);
        x.change(0, 0, 0);
        Checks.equal("nothing is asked of song 5", x.mostAsked(0), 6);
        Checks.equal("but in the other box", x.mostAsked(1), 5);
        Checks.equal("asked while it is in", x.ask(0, 5), 1);
        x.change(0, 0, -1);
        Checks.equal("taken out, still asked", x.ask(0, 5), 2);
        Checks.equal("of the song taken out", x.mostAsked(0), 5);
        x.change(0, 0, 0);
        x.change(0, 1, 1);
        Checks.fails("none is left", NoSuchElementException.class, () -> x.mostAsked(0));
        Checks.equal("from 1 again", x.ask(0, 5), 1);
        x.addDisc(0, 50, 0);
        x.addDisc(99, 50, 0);
        x.ask(0, 0);
        x.ask(0, 99);
        x.change(0, 2, 2);
        x.change(0, 3, 3);
        Checks.equal("the lowest song is put in", x.ask(0, 0), 1);
        Checks.equal("the highest song is put in", x.ask(0, 99), 1);
    }

    private static void least() {
        SelectoRoute x = new SelectoRoute();
        x.addDisc(5, 20, 0);
        x.addDisc(6, 10, 0);
        x.addDisc(7, 10, 0);
        x.addBox(0, 0);
        x.addBox(0, 0);
        Checks.fails("all are empty", NoSuchElementException.class, () -> x.least(0));
        x.visit(0);
        x.change(0, 2, 0);
        Checks.equal("the only one", x.least(0), 2);
        x.change(0, 9, 1);
        Checks.equal("of like ones the lowest", x.least(0), 2);
        x.pass();
        Checks.equal("played once, not twice", x.least(0), 9);
        x.visit(0);
        x.change(0, 5, 2);
        Checks.equal("not played yet", x.least(0), 5);
        x.pass();
        Checks.equal("once, not twice", x.least(0), 5);
        x.insert(0, 'd');
        x.press(0, 5);
        x.press(0, 5);
        x.play(0);
        Checks.equal("twice both, the lowest", x.least(0), 5);
        x.play(0);
        Checks.equal("three times and twice", x.least(0), 9);
        Checks.fails("the other box", NoSuchElementException.class, () -> x.least(1));
        Checks.outOfBounds("box 2", () -> x.least(2));
        Checks.outOfBounds("box -1", () -> x.least(-1));
    }
}
