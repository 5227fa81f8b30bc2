import java.util.NoSuchElementException;

/** Songs that are asked for and the slot that played least, promises 30 to 32, at the edges of their sentences. */
public final class SongEdgesTest {
    private static final Class<NoSuchElementException> NONE = NoSuchElementException.class;

    public static void main(String[] args) {
        upTo99Times();
        songThatIsPutIn();
        songOfAnotherDisc();
        songThatIsTakenOut();
        refusedChangeKeepsWhatIsAsked();
        noneIsAskedFor();
        mostOfTwo();
        likeOnes();
        likeOnesAt99();
        allAreEmpty();
        leastOfTwo();
        likeSlots();
        emptySlotsAreNotLeast();
        wheelNotWear();
        Checks.finish();
    }

    private static void ask(SelectoRoute x, int box, int song, int times) {
        for (int i = 0; i < times; i++) {
            x.ask(box, song);
        }
    }

    /** "up to 99 times each": each song, in each box. */
    private static void upTo99Times() {
        SelectoRoute x = Routes.withBox(9);
        x.addBox(0, 9);
        Checks.equal("the first time", x.ask(0, 99), 1);
        ask(x, 0, 99, 97);
        Checks.equal("the 99th time", x.ask(0, 99), 99);
        Checks.fails("the 100th time", IllegalStateException.class, () -> x.ask(0, 99));
        Checks.equal("the song beside it", x.ask(0, 98), 1);
        Checks.equal("the first song", x.ask(0, 0), 1);
        Checks.equal("the other box", x.ask(1, 99), 1);
        x.pass();
        Checks.fails("in the next week", IllegalStateException.class, () -> x.ask(0, 99));
    }

    /** "of a song that is put in nothing is asked any more there" */
    private static void songThatIsPutIn() {
        SelectoRoute x = Routes.withBox(9);
        x.addBox(0, 9);
        x.addDisc(0, 40, 0);
        x.addDisc(99, 40, 0);
        ask(x, 0, 0, 99);
        ask(x, 0, 99, 99);
        ask(x, 0, 98, 2);
        ask(x, 1, 99, 3);
        x.change(0, 0, 1);
        Checks.equal("the last song, from 1 again", x.ask(0, 99), 1);
        Checks.fails("the first song is not put in yet", IllegalStateException.class, () -> x.ask(0, 0));
        x.change(0, 1, 0);
        Checks.equal("the song that is not put in", x.mostAsked(0), 98);
        Checks.equal("the first song, from 1 again", x.ask(0, 0), 1);
        Checks.equal("in the other box it stays", x.ask(1, 99), 4);
    }

    /** The song counts, not the disc: another disc of it does as well, in another slot, too. */
    private static void songOfAnotherDisc() {
        SelectoRoute x = Routes.withBox(9, 40);
        x.addDisc(1, 30, 0);
        Checks.equal("asked though it is in", x.ask(0, 1), 1);
        x.change(0, 5, 1);
        Checks.fails("put in once more", NONE, () -> x.mostAsked(0));
        Checks.equal("asked though it is in twice", x.ask(0, 1), 1);
    }

    /** Nothing but putting it in makes a song be asked no more. */
    private static void songThatIsTakenOut() {
        SelectoRoute x = Routes.withBox(9, 40);
        x.addDisc(2, 40, 0);
        ask(x, 0, 1, 2);
        x.change(0, 0, -1);
        Checks.equal("taken out", x.ask(0, 1), 3);
        x.change(0, 0, 1);
        Checks.equal("another song is put in", x.ask(0, 1), 4);
        x.burn(0);
        Checks.equal("its disc is burnt", x.ask(0, 1), 5);
        x.pass();
        x.visit(0);
        Checks.equal("a week and a visit", x.ask(0, 1), 6);
    }

    private static void refusedChangeKeepsWhatIsAsked() {
        SelectoRoute x = Routes.withBox(9);
        x.addDisc(1, 40, 0);
        ask(x, 0, 1, 2);
        Routes.spendTo(x, 0, 9, 5);
        Checks.fails("5 minutes", UnsupportedOperationException.class, () -> x.change(0, 0, 0));
        Checks.equal("asked as before", x.ask(0, 1), 3);
    }

    /** "if none is" */
    private static void noneIsAskedFor() {
        SelectoRoute x = Routes.withBox(9);
        x.addBox(0, 9);
        x.addDisc(0, 40, 0);
        Checks.fails("at first", NONE, () -> x.mostAsked(0));
        x.ask(0, 0);
        Checks.equal("the first song, once", x.mostAsked(0), 0);
        Checks.fails("the other box", NONE, () -> x.mostAsked(1));
        x.change(0, 0, 0);
        Checks.fails("put in", NONE, () -> x.mostAsked(0));
        x.ask(0, 99);
        Checks.equal("the last song, once", x.mostAsked(0), 99);
    }

    /** "the song that is asked for most": by one more, be it lower or higher. */
    private static void mostOfTwo() {
        SelectoRoute x = Routes.withBox(9);
        ask(x, 0, 40, 2);
        ask(x, 0, 41, 3);
        Checks.equal("the higher", x.mostAsked(0), 41);
        ask(x, 0, 40, 2);
        Checks.equal("the lower", x.mostAsked(0), 40);
        ask(x, 0, 99, 5);
        Checks.equal("the last", x.mostAsked(0), 99);
        ask(x, 0, 0, 6);
        Checks.equal("the first", x.mostAsked(0), 0);
    }

    /** "of like ones the lowest" */
    private static void likeOnes() {
        SelectoRoute x = Routes.withBox(9);
        ask(x, 0, 99, 2);
        ask(x, 0, 50, 1);
        Checks.equal("one less", x.mostAsked(0), 99);
        ask(x, 0, 50, 1);
        Checks.equal("as many, and lower", x.mostAsked(0), 50);
        ask(x, 0, 51, 2);
        Checks.equal("as many, and higher", x.mostAsked(0), 50);
        ask(x, 0, 0, 2);
        Checks.equal("as many, and lowest", x.mostAsked(0), 0);
    }

    private static void likeOnesAt99() {
        SelectoRoute x = Routes.withBox(9);
        ask(x, 0, 70, 99);
        ask(x, 0, 30, 98);
        Checks.equal("99 and 98", x.mostAsked(0), 70);
        ask(x, 0, 30, 1);
        Checks.equal("99 both", x.mostAsked(0), 30);
    }

    /** "if all are empty" */
    private static void allAreEmpty() {
        SelectoRoute x = Routes.withBox(9);
        x.addBox(0, 9);
        x.addDisc(1, 40, 0);
        Checks.fails("at first", NONE, () -> x.least(0));
        x.change(0, 9, 0);
        Checks.equal("the last slot alone", x.least(0), 9);
        Checks.fails("the other box", NONE, () -> x.least(1));
        x.change(0, 9, -1);
        Checks.fails("empty again", NONE, () -> x.least(0));
        x.change(0, 0, 0);
        Checks.equal("the first slot alone", x.least(0), 0);
    }

    /** "the slot with a disc that played least": by one less, be it lower or higher. */
    private static void leastOfTwo() {
        SelectoRoute x = Routes.withBox(9, 1, 1);
        Routes.play(x, 0, 0, 1);
        Checks.equal("once and never", x.least(0), 1);
        Routes.play(x, 0, 1, 2);
        Checks.equal("once and twice", x.least(0), 0);
        x.change(0, 1, -1);
        x.change(0, 1, 1);
        Checks.equal("once, and never since it was put in", x.least(0), 1);
    }

    /** "of like ones the lowest" */
    private static void likeSlots() {
        SelectoRoute x = Routes.withBox(9, 1, 1, 1, 1, 1, 1, 1, 1, 1, 1);
        for (int slot = 0; slot < 9; slot++) {
            Checks.equal("the lowest that never played", x.least(0), slot);
            Routes.play(x, 0, slot, 1);
        }
        Checks.equal("all but the last played once", x.least(0), 9);
        Routes.play(x, 0, 9, 1);
        Checks.equal("all played once", x.least(0), 0);
        Routes.play(x, 0, 0, 1);
        Checks.equal("the first twice", x.least(0), 1);
    }

    /** "the slot with a disc": a slot without one has played nothing, and counts for nothing. */
    private static void emptySlotsAreNotLeast() {
        SelectoRoute x = Routes.withBox(9, 40, 40, 40);
        Routes.play(x, 0, 1, 1);
        Routes.play(x, 0, 2, 2);
        x.change(0, 0, -1);
        Checks.equal("behind an empty slot", x.least(0), 1);
        x.change(0, 1, -1);
        Checks.equal("behind two", x.least(0), 2);
    }

    /** What a slot played counts, not how its disc is worn. */
    private static void wheelNotWear() {
        SelectoRoute x = Routes.withBox(9, 1, 1);
        Routes.play(x, 0, 0, 5);
        x.change(0, 0, -1);
        x.change(0, 2, 0);
        Routes.play(x, 0, 1, 1);
        Checks.equal("the disc is worn by 5, the slot played never", x.least(0), 2);
    }
}
