import java.util.ArrayList;
import java.util.List;
import java.util.Random;

/** What a station's text tells, and words spoken over it; gives new objects that were told it, or a little else. */
final class Told {
    static final int NONE = IntervalSignal.NONE;

    final int tones;
    final int a;
    final int b;
    final int c;
    final int d;
    final int odds;
    final List<Integer> signs;
    final List<Integer> posts;
    final List<int[]> acts;

    private Told(int[] head, List<Integer> signs, List<Integer> posts, List<int[]> acts) {
        tones = head[0];
        a = head[1];
        b = head[2];
        c = head[3];
        d = head[4];
        odds = head[5];
        this.signs = signs;
        this.posts = posts;
        this.acts = acts;
    }

    /** At most 28 acts, so that two more can be spoken. */
    static Told random(Random random, int mostTones) {
        int tones = 2 + random.nextInt(mostTones - 1);
        int[] head = {tones, random.nextInt(tones), random.nextInt(tones), random.nextInt(tones), random.nextInt(tones),
            random.nextInt(11)};
        List<Integer> signs = new ArrayList<>();
        for (int left = random.nextInt(9); left > 0; left--) {
            signs.add(random.nextBoolean() ? NONE : random.nextInt(tones));
        }
        List<Integer> posts = new ArrayList<>();
        for (int left = random.nextInt(6); left > 0; left--) {
            posts.add(random.nextInt(100));
        }
        List<int[]> acts = new ArrayList<>();
        for (int left = random.nextInt(29); left > 0; left--) {
            acts.add(new int[] {random.nextInt(61), random.nextInt(tones + 1) - 1});
        }
        return new Told(head, signs, posts, acts);
    }

    Told withLaw(int newA, int newB, int newC) {
        return new Told(new int[] {tones, newA, newB, newC, d, odds}, signs, posts, acts);
    }

    Told withPost(int place) {
        List<Integer> more = new ArrayList<>(posts);
        more.add(place);
        return new Told(new int[] {tones, a, b, c, d, odds}, signs, more, acts);
    }

    /** All triples of a, b, c, the first first. */
    List<Told> withEachLaw() {
        List<Told> all = new ArrayList<>();
        for (int k = 0; k < tones * tones * tones; k++) {
            all.add(withLaw(k / tones / tones, k / tones % tones, k % tones));
        }
        return all;
    }

    int law() {
        return 100 * a + 10 * b + c;
    }

    boolean gap(int step) {
        return !signs.isEmpty() && signs.get(step % signs.size()) == NONE;
    }

    String text() {
        StringBuilder text = new StringBuilder("station tones ").append(tones).append(" a ").append(a).append(" b ");
        text.append(b).append(" c ").append(c).append(" d ").append(d).append(" odds ").append(odds).append(";\n");
        for (int sign : signs) {
            text.append(sign == NONE ? "gap" : "note " + sign).append(";");
        }
        for (int post : posts) {
            text.append("post at ").append(post).append(";");
        }
        return text.toString();
    }

    /** A new object, nothing spoken. */
    IntervalSignal silent() {
        return Check.of(text());
    }

    /** A new object, these words spoken over it alone: none, where a word is NONE. */
    IntervalSignal silentBut(int... stepsAndWords) {
        IntervalSignal x = silent();
        for (int i = 0; i < stepsAndWords.length; i += 2) {
            if (stepsAndWords[i + 1] != NONE) {
                x.speak(stepsAndWords[i], stepsAndWords[i + 1]);
            }
        }
        return x;
    }

    /** A new object, spoken over by the acts. */
    IntervalSignal spoken() {
        return spokenBy(acts.size());
    }

    IntervalSignal spokenBy(int firstActs) {
        IntervalSignal x = silent();
        for (int[] act : acts.subList(0, firstActs)) {
            x.speak(act[0], act[1]);
        }
        return x;
    }

    @Override
    public String toString() {
        StringBuilder told = new StringBuilder(text().replace('\n', ' '));
        for (int[] act : acts) {
            told.append(" speak ").append(act[0]).append(" ").append(act[1]);
        }
        return told.toString();
    }
}
