import java.util.ArrayDeque;
import java.util.Arrays;
import java.util.NoSuchElementException;
import java.util.TreeMap;

/**
 * The document once more, told as plainly as can be, in rows and maps, to be held against the class.
 * It shares no way of counting with the class where there is another: places instead of links,
 * all choices of changes instead of the strongest discs, one play after another instead of so many times.
 */
final class PlainModel {
    final int[][] discs = new int[30][];
    final int[] wear = new int[30];
    final int[] place = new int[30];
    final int[] share = new int[4];
    final int[] taste = new int[4];
    final int[] risk = new int[4];
    final int[] credits = new int[4];
    final int[] cents = new int[4];
    final int[] needle = new int[4];
    final int[] lacking = new int[4];
    final int[] landlord = new int[4];
    final int[] plays = new int[4];
    final boolean[] jammed = new boolean[4];
    final boolean[] visited = new boolean[4];
    final int[] wheel = new int[40];
    final ArrayDeque<?>[] queues = new ArrayDeque<?>[4];
    final TreeMap<Integer, Integer> asked = new TreeMap<>();
    int discCount;
    int boxCount;
    int week;
    int minutes = 600;
    int earned;
    long z = 1;

    @SuppressWarnings("unchecked")
    private ArrayDeque<Integer> queue(int box) {
        return (ArrayDeque<Integer>) queues[box];
    }

    private void box(int box) {
        need(box >= 0 && box < boxCount, new IndexOutOfBoundsException());
    }

    private void slot(int box, int slot) {
        box(box);
        need(slot >= 0 && slot <= 9, new IndexOutOfBoundsException());
    }

    private void disc(int disc) {
        need(disc >= 0 && disc < discCount, new IndexOutOfBoundsException());
    }

    private static void need(boolean holds, RuntimeException otherwise) {
        if (!holds) {
            throw otherwise;
        }
    }

    private static void range(int number, int low, int high) {
        need(number >= low && number <= high, new IllegalArgumentException());
    }

    private int in(int box, int slot) {
        for (int disc = 0; disc < discCount; disc++) {
            if (place[disc] == 10 * box + slot) {
                return disc;
            }
        }
        return -1;
    }

    int addDisc(int song, int strength, int from) {
        range(song, 0, 99);
        range(strength, 1, 50);
        range(from, 0, 99);
        need(discCount < 30, new IllegalStateException());
        discs[discCount] = new int[] {song, strength, from};
        place[discCount] = -1;
        return discCount++;
    }

    int addBox(int itsShare, int itsTaste) {
        range(itsShare, 0, 60);
        range(itsTaste, 0, 9);
        need(boxCount < 4, new IllegalStateException());
        share[boxCount] = itsShare;
        taste[boxCount] = itsTaste;
        queues[boxCount] = new ArrayDeque<Integer>();
        return boxCount++;
    }

    int setRisk(int box, int to) {
        box(box);
        range(to, 0, 20);
        int before = risk[box];
        risk[box] = to;
        return before;
    }

    int setSeed(int to) {
        range(to, 1, 2147483646);
        int before = (int) z;
        z = to;
        return before;
    }

    int insert(int box, char coin) {
        box(box);
        int kind = "ndqs".indexOf(coin);
        need(kind >= 0, new IllegalArgumentException());
        need(!jammed[box], new UnsupportedOperationException());
        int gives = new int[] {1, 2, 6, 6}[kind];
        need(credits[box] + gives < 100, new IllegalStateException());
        cents[box] += new int[] {5, 10, 25, 0}[kind];
        return credits[box] += gives;
    }

    int press(int box, int slot) {
        slot(box, slot);
        need(credits[box] > 0 && in(box, slot) >= 0, new UnsupportedOperationException());
        need(queue(box).size() < 8, new IllegalStateException());
        credits[box]--;
        queue(box).addLast(slot);
        return queue(box).size();
    }

    char play(int box) {
        box(box);
        need(!jammed[box], new UnsupportedOperationException());
        need(!queue(box).isEmpty(), new NoSuchElementException());
        z = z * 48271 % 2147483647;
        if (z % 100 < risk[box]) {
            jammed[box] = true;
            return 'j';
        }
        int slot = queue(box).removeFirst();
        int disc = in(box, slot);
        if (disc < 0 || wear[disc] >= 60) {
            credits[box]++;
            return 'b';
        }
        wear[disc] += 1 + needle[box] / 40;
        needle[box]++;
        wheel[10 * box + slot]++;
        plays[box]++;
        return 'p';
    }

    int pullAt(int disc, int itsTaste) {
        int song = discs[disc][0];
        int strength = discs[disc][1];
        int age = week - discs[disc][2];
        if (place[disc] == -2 || age < 0) {
            return 0;
        }
        int pull = strength - 2 * age;
        if (pull < strength / 5) {
            pull = strength / 5;
        }
        if (song % 10 == itsTaste) {
            pull = pull + pull / 2;
        }
        pull = pull - wear[disc] / 10;
        return pull < 0 ? 0 : pull;
    }

    int pull(int disc) {
        disc(disc);
        return pullAt(disc, place[disc] < 0 ? -7 : taste[place[disc] / 10]);
    }

    int pullIn(int box, int disc) {
        box(box);
        disc(disc);
        return pullAt(disc, taste[box]);
    }

    int pass() {
        need(week < 99, new IllegalStateException());
        for (int at = 0; at < 10 * boxCount; at++) {
            int box = at / 10;
            int disc = in(box, at % 10);
            if (!jammed[box] && disc >= 0 && wear[disc] < 60) {
                int times = pull(disc) / 8;
                int old = needle[box];
                for (int i = 0; i < times; i++) {
                    cents[box] += 5;
                    wheel[at]++;
                    plays[box]++;
                    wear[disc] += 1 + old / 40;
                    needle[box]++;
                }
            }
        }
        minutes = 600;
        Arrays.fill(visited, false);
        return ++week;
    }

    int visit(int box) {
        box(box);
        need(!visited[box] && minutes >= 40, new UnsupportedOperationException());
        int all = cents[box];
        minutes -= 40;
        visited[box] = true;
        jammed[box] = false;
        lacking[box] = 5 * plays[box] - all;
        plays[box] = 0;
        cents[box] = 0;
        landlord[box] += all * share[box] / 100;
        earned += all - all * share[box] / 100;
        return all;
    }

    int change(int box, int slot, int disc) {
        slot(box, slot);
        need(disc >= -1 && disc < discCount, new IndexOutOfBoundsException());
        need(visited[box], new UnsupportedOperationException());
        need(disc == -1 || place[disc] == -1, new UnsupportedOperationException());
        need(minutes >= 10, new UnsupportedOperationException());
        minutes -= 10;
        int was = in(box, slot);
        if (was >= 0) {
            place[was] = -1;
        }
        if (disc >= 0) {
            place[disc] = 10 * box + slot;
            asked.remove(100 * box + discs[disc][0]);
        }
        wheel[10 * box + slot] = 0;
        return was;
    }

    int changeNeedle(int box) {
        box(box);
        need(visited[box] && minutes >= 5, new UnsupportedOperationException());
        minutes -= 5;
        int was = needle[box];
        needle[box] = 0;
        return was;
    }

    int burn(int disc) {
        disc(disc);
        need(place[disc] == -1, new UnsupportedOperationException());
        place[disc] = -2;
        return wear[disc];
    }

    int ask(int box, int song) {
        box(box);
        range(song, 0, 99);
        int before = asked.getOrDefault(100 * box + song, 0);
        need(before < 99, new IllegalStateException());
        asked.put(100 * box + song, before + 1);
        return before + 1;
    }

    int mostAsked(int box) {
        box(box);
        for (int times = 99; times > 0; times--) {
            for (int song = 0; song < 100; song++) {
                if (asked.getOrDefault(100 * box + song, 0) == times) {
                    return song;
                }
            }
        }
        throw new NoSuchElementException();
    }

    int least(int box) {
        box(box);
        int least = -1;
        for (int slot = 9; slot >= 0; slot--) {
            if (in(box, slot) >= 0 && (least < 0 || wheel[10 * box + slot] <= wheel[10 * box + least])) {
                least = slot;
            }
        }
        need(least >= 0, new NoSuchElementException());
        return least;
    }

    int worth(int box, int slot, int disc) {
        slot(box, slot);
        disc(disc);
        need(place[disc] == -1, new UnsupportedOperationException());
        return worthOf(box, slot, disc);
    }

    private int worthOf(int box, int slot, int disc) {
        int there = in(box, slot);
        return pullAt(disc, taste[box]) - (there < 0 ? 0 : pullAt(there, taste[box]));
    }

    int bestWorth(int box, int many) {
        box(box);
        range(many, 0, 3);
        return best(box, many, 0, new boolean[30]);
    }

    /** Tries each slot from one on with each disc, and without a change. */
    private int best(int box, int many, int slot, boolean[] used) {
        if (many == 0 || slot == 10) {
            return 0;
        }
        int best = best(box, many, slot + 1, used);
        for (int disc = 0; disc < discCount; disc++) {
            if (place[disc] == -1 && !used[disc] && worthOf(box, slot, disc) > 0) {
                used[disc] = true;
                best = Math.max(best, worthOf(box, slot, disc) + best(box, many - 1, slot + 1, used));
                used[disc] = false;
            }
        }
        return best;
    }

    float wornShare() {
        int worn = 0;
        int all = 0;
        for (int disc = 0; disc < discCount; disc++) {
            all += place[disc] == -2 ? 0 : 1;
            worn += place[disc] != -2 && wear[disc] > 59 ? 1 : 0;
        }
        need(all > 0, new ArithmeticException());
        return (float) worn / (float) all;
    }

    double meanPull() {
        int sum = 0;
        int all = 0;
        for (int disc = 0; disc < discCount; disc++) {
            all += place[disc] >= 0 ? 1 : 0;
            sum += place[disc] >= 0 ? pull(disc) : 0;
        }
        need(all > 0, new ArithmeticException());
        return (double) sum / (double) all;
    }

    long checksum() {
        long sum = 7;
        for (int disc = 0; disc < discCount; disc++) {
            sum = 31 * sum + wear[disc];
        }
        for (int box = 0; box < boxCount; box++) {
            sum = 31 * (31 * (31 * sum + cents[box]) + credits[box]) + needle[box];
        }
        return 31 * (31 * sum + earned) + z;
    }

    int discAt(int box, int slot) {
        slot(box, slot);
        need(in(box, slot) >= 0, new NoSuchElementException());
        return in(box, slot);
    }

    int ofBox(int[] row, int box) {
        box(box);
        return row[box];
    }

    int ofDisc(int[] row, int disc) {
        disc(disc);
        return row[disc];
    }

    int queued(int box) {
        box(box);
        return queue(box).size();
    }

    boolean isJammed(int box) {
        box(box);
        return jammed[box];
    }

    int wheelAt(int box, int slot) {
        slot(box, slot);
        return wheel[10 * box + slot];
    }
}
