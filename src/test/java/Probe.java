import java.util.ArrayList;
import java.util.List;

/**
 * All that can be told of a route from outside: what it answers now, and then, as what is kept inside shows in
 * later answers alone (the risk, the songs asked for, the order of the queue, visits, plays since then),
 * what it answers to calls that move it on. The route is used up by that.
 */
final class Probe {
    private static final int[] SONGS = {0, 1, 5, 6, 99};
    private static final int MOST_QUEUED = 8;

    private interface Question {
        Object answer();
    }

    private final SelectoRoute x;
    private final List<Object> answers = new ArrayList<>();
    private int discs;
    private int boxes;

    private Probe(SelectoRoute x) {
        this.x = x;
    }

    static List<Object> of(SelectoRoute x) {
        Probe probe = new Probe(x);
        probe.readDiscs();
        probe.readBoxes();
        probe.readSums();
        probe.moveOn();
        return probe.answers;
    }

    /** Notes an answer, or which exception stands for it: true if there was an answer. */
    private boolean note(Question question) {
        try {
            answers.add(question.answer());
            return true;
        } catch (RuntimeException e) {
            answers.add(e.getClass());
            return false;
        }
    }

    private void readDiscs() {
        while (note(() -> x.getWear(discs))) {
            note(() -> x.getPlace(discs));
            note(() -> x.pull(discs));
            discs++;
        }
    }

    private void readBoxes() {
        while (note(() -> x.getCents(boxes))) {
            note(() -> x.getCredits(boxes));
            note(() -> x.getQueued(boxes));
            note(() -> x.isJammed(boxes));
            note(() -> x.getNeedle(boxes));
            note(() -> x.getShort(boxes));
            note(() -> x.getShare(boxes));
            note(() -> x.mostAsked(boxes));
            note(() -> x.least(boxes));
            note(() -> x.bestWorth(boxes, 3));
            for (int slot = 0; slot < 10; slot++) {
                int there = slot;
                note(() -> x.getWheel(boxes, there));
                note(() -> x.discAt(boxes, there));
            }
            boxes++;
        }
    }

    private void readSums() {
        note(x::getWeek);
        note(x::getMinutes);
        note(x::getEarned);
        note(x::wornShare);
        note(x::meanPull);
        note(x::checksum);
        note(x::isSound);
    }

    private void moveOn() {
        note(() -> x.setSeed(1));
        for (int box = 0; box < boxes; box++) {
            int there = box;
            note(() -> x.setRisk(there, 0));
            for (int song : SONGS) {
                note(() -> x.ask(there, song));
            }
            note(() -> x.changeNeedle(there));
            note(() -> x.visit(there));
            note(() -> x.getShort(there));
            playOut(box);
        }
        note(x::pass);
        note(x::checksum);
    }

    /** The checksum tells by the discs' wear which slot played. */
    private void playOut(int box) {
        for (int i = 0; i <= MOST_QUEUED; i++) {
            note(() -> x.play(box));
            note(x::checksum);
        }
    }
}
