import java.math.BigInteger;
import java.util.ArrayList;
import java.util.Arrays;
import java.util.HashMap;
import java.util.HashSet;
import java.util.List;
import java.util.Map;
import java.util.Set;
import java.util.TreeMap;
import java.util.regex.Matcher;
import java.util.regex.Pattern;

/**
 * The document once more, as plainly as it can be told and by other ways than the program's: lists, maps, big
 * numbers, and searches through all there is. Only random runs use it.
 */
final class Oracle {
    private static final Pattern TOKEN = Pattern.compile("[a-z]+|[0-9]+|[^a-z0-9 \n]");

    /** What an image keeps. */
    private static final class State {
        int tones, a, b, c, d, odds, lines;
        List<Integer> signs = new ArrayList<>();
        List<Integer> posts = new ArrayList<>();
        List<int[]> acts = new ArrayList<>();

        State copy() {
            State s = new State();
            s.tones = tones;
            s.a = a;
            s.b = b;
            s.c = c;
            s.d = d;
            s.odds = odds;
            s.lines = lines;
            s.signs.addAll(signs);
            s.posts.addAll(posts);
            s.acts.addAll(acts);
            return s;
        }

        Map<Integer, Integer> words() {
            Map<Integer, Integer> words = new TreeMap<>();
            for (int[] act : acts) {
                if (act[1] == -1) {
                    words.remove(act[0]);
                } else {
                    words.put(act[0], act[1]);
                }
            }
            return words;
        }

        boolean gap(int n) {
            return !signs.isEmpty() && signs.get(n % signs.size()) == -1;
        }

        int own(int n, int last, int answer) {
            int sign = signs.get(n % signs.size());
            return Math.floorMod(sign == -1 ? a * last + b * answer + c : sign + d * answer, tones);
        }
    }

    /** Of each step: tone, last ahead, answer ahead, pip. */
    private static final class Heard {
        int[] tone, last, answer;
        boolean[] pip;
    }

    private final StringBuilder tape = new StringBuilder();
    private State s = new State();
    private final State[] images = new State[3];
    private final long[][] rows = new long[4][];
    private final int[] widths = new int[4];
    private int fault = 0;
    private int faultAt = -1;

    private static Heard hear(State s, Map<Integer, Integer> words, int to) {
        Heard h = new Heard();
        h.tone = new int[to + 1];
        h.last = new int[to + 1];
        h.answer = new int[to + 1];
        h.pip = new boolean[to + 1];
        Arrays.fill(h.tone, -1);
        if (s.signs.isEmpty()) {
            return h;
        }
        int last = 0;
        int answer = 0;
        for (int n = 0; n <= to; n++) {
            h.last[n] = last;
            h.answer[n] = answer;
            h.tone[n] = words.containsKey(n) ? words.get(n) : s.own(n, last, answer);
            if (s.gap(n)) {
                h.pip[n] = h.tone[n] == last;
                answer = h.tone[n];
            } else {
                last = h.tone[n];
            }
        }
        return h;
    }

    private Heard now() {
        return hear(s, s.words(), 60);
    }

    private Heard with(int step, int tone) {
        Map<Integer, Integer> words = s.words();
        words.put(step, tone);
        return hear(s, words, 60);
    }

    private boolean none() {
        return s.lines == 0;
    }

    private boolean badStep(int step) {
        return none() || step < 0 || step > 60;
    }

    private boolean badPlan(int step) {
        return none() || step < 0 || step > 40;
    }

    private boolean badTone(int tone) {
        return none() || tone < 0 || tone >= s.tones;
    }

    int feed(int a, int b, int c, int d, int e) {
        if (tape.length() > 480) {
            return -1;
        }
        for (int number : new int[] {a, b, c, d, e}) {
            for (byte x : java.nio.ByteBuffer.allocate(4).putInt(number).array()) {
                tape.append((char) (x & 255));
            }
        }
        return tape.length();
    }

    int end(int n) {
        if (n < 0 || n > tape.length()) {
            return -1;
        }
        tape.setLength(n);
        return n;
    }

    int station() {
        List<String> tokens = new ArrayList<>();
        List<Integer> places = new ArrayList<>();
        Matcher m = TOKEN.matcher(tape);
        while (m.find()) {
            tokens.add(m.group());
            places.add(m.start());
        }
        tokens.add("");
        places.add(tape.length());
        State next = new State();
        int at = 0;
        fault = 0;
        faultAt = -1;
        while (fault == 0 && !tokens.get(at).isEmpty()) {
            String first = tokens.get(at);
            String[] shape;
            if (next.lines == 0) {
                shape = "station tones # a # b # c # d # odds # ;".split(" ");
            } else if (first.equals("note")) {
                shape = "note # ;".split(" ");
            } else if (first.equals("gap")) {
                shape = "gap ;".split(" ");
            } else if (first.equals("post")) {
                shape = "post at # ;".split(" ");
            } else {
                fault = 1;
                faultAt = places.get(at);
                break;
            }
            boolean full = first.equals("post") ? next.posts.size() == 5 : next.signs.size() == 8;
            if (next.lines > 0 && full) {
                fault = 3;
                faultAt = places.get(at);
                break;
            }
            List<Integer> numbers = new ArrayList<>();
            for (int k = 0; k < shape.length && fault == 0; k++, at++) {
                String token = tokens.get(at);
                if (shape[k].equals("#") ? !token.matches("[0-9]+") : !token.equals(shape[k])) {
                    fault = 1;
                } else if (shape[k].equals("#")) {
                    BigInteger v = new BigInteger(token);
                    int low = shape.length > 5 && k == 2 ? 2 : 0;
                    int high = high(shape[k - 1], numbers, next);
                    if (v.compareTo(BigInteger.valueOf(low)) < 0 || v.compareTo(BigInteger.valueOf(high)) > 0) {
                        fault = 2;
                    } else {
                        numbers.add(v.intValue());
                    }
                }
                if (fault != 0) {
                    faultAt = places.get(at);
                }
            }
            if (fault == 0) {
                take(first, numbers, next);
            }
        }
        if (fault != 0) {
            return -4;
        }
        s = next;
        tape.setLength(0);
        return s.lines;
    }

    private static int high(String name, List<Integer> numbers, State next) {
        switch (name) {
            case "tones":
                return 9;
            case "odds":
                return 10;
            case "note":
                return next.tones - 1;
            case "at":
                return 99;
            default:
                return numbers.get(0) - 1;
        }
    }

    private static void take(String first, List<Integer> numbers, State next) {
        next.lines++;
        switch (first) {
            case "note":
                next.signs.add(numbers.get(0));
                break;
            case "gap":
                next.signs.add(-1);
                break;
            case "post":
                next.posts.add(numbers.get(0));
                break;
            default:
                next.tones = numbers.get(0);
                next.a = numbers.get(1);
                next.b = numbers.get(2);
                next.c = numbers.get(3);
                next.d = numbers.get(4);
                next.odds = numbers.get(5);
        }
    }

    int fault(int what) {
        return what == 0 ? fault : what == 1 ? faultAt : -1;
    }

    int sign(int k) {
        return k < 0 || k >= s.signs.size() ? -2 : s.signs.get(k);
    }

    int post(int k) {
        return k < 0 || k >= s.posts.size() ? -2 : s.posts.get(k);
    }

    int heard(int step) {
        return badStep(step) ? -2 : now().tone[step];
    }

    int last(int step) {
        return badStep(step) ? -2 : now().last[step];
    }

    int answer(int step) {
        return badStep(step) ? -2 : now().answer[step];
    }

    int gaps(int step) {
        if (badStep(step)) {
            return -2;
        }
        int found = 0;
        for (int n = 0; n <= step; n++) {
            found += s.gap(n) ? 1 : 0;
        }
        return found;
    }

    private static List<Integer> pipSteps(Heard h) {
        List<Integer> steps = new ArrayList<>();
        for (int n = 0; n < h.pip.length; n++) {
            if (h.pip[n]) {
                steps.add(n);
            }
        }
        return steps;
    }

    int pips(int step) {
        if (badStep(step)) {
            return -2;
        }
        int found = 0;
        for (int n : pipSteps(now())) {
            found += n <= step ? 1 : 0;
        }
        return found;
    }

    private static int firstOf(List<Integer> steps) {
        return steps.isEmpty() ? -1 : steps.get(0);
    }

    int wed() {
        return none() ? -2 : firstOf(pipSteps(now()));
    }

    private List<Integer> stepsOf(int tone, int to) {
        List<Integer> steps = new ArrayList<>();
        int[] heard = now().tone;
        for (int n = 0; n <= to; n++) {
            if (heard[n] == tone) {
                steps.add(n);
            }
        }
        return steps;
    }

    int first(int tone) {
        return badTone(tone) ? -2 : firstOf(stepsOf(tone, 60));
    }

    int often(int tone, int step) {
        return badTone(tone) || badStep(step) ? -2 : stepsOf(tone, step).size();
    }

    int all(int step) {
        if (badStep(step)) {
            return -2;
        }
        int sum = 0;
        for (int tone = 0; tone < s.tones; tone++) {
            sum += stepsOf(tone, step).isEmpty() ? 0 : (int) Math.pow(2, tone);
        }
        return sum;
    }

    int most() {
        if (none()) {
            return -2;
        }
        int best = -1;
        for (int tone = s.tones - 1; tone >= 0; tone--) {
            int times = stepsOf(tone, 60).size();
            if (times > 0 && (best == -1 || times >= stepsOf(best, 60).size())) {
                best = tone;
            }
        }
        return best;
    }

    int held() {
        if (none()) {
            return -2;
        }
        int[] heard = now().tone;
        int most = 0;
        for (int from = 0; from <= 60; from++) {
            for (int to = from; to <= 60 && heard[from] != -1 && heard[to] == heard[from]; to++) {
                most = Math.max(most, to - from + 1);
            }
        }
        return most;
    }

    private int[] moves() {
        int[] heard = now().tone;
        int[] moves = new int[60];
        for (int n = 0; n < 60; n++) {
            moves[n] = heard[n + 1] - heard[n];
        }
        return moves;
    }

    int rises() {
        return none() ? -2 : (int) Arrays.stream(moves()).filter(m -> m > 0).count();
    }

    int falls() {
        return none() ? -2 : (int) Arrays.stream(moves()).filter(m -> m < 0).count();
    }

    int leap() {
        return none() ? -2 : Arrays.stream(moves()).map(Math::abs).max().getAsInt();
    }

    int unlike(int step) {
        if (badStep(step)) {
            return -2;
        }
        Set<Integer> tones = new HashSet<>();
        for (int n = 0; n <= step; n++) {
            tones.add(now().tone[n]);
        }
        tones.remove(-1);
        return tones.size();
    }

    int when(int k) {
        if (none() || k < 0 || k > 60) {
            return -2;
        }
        List<Integer> steps = pipSteps(now());
        return k < steps.size() ? steps.get(k) : -1;
    }

    int echo(int step) {
        if (badStep(step)) {
            return -2;
        }
        int best = -1;
        int[] heard = now().tone;
        for (int n = 0; n < step; n++) {
            best = heard[step] != -1 && heard[n] == heard[step] ? n : best;
        }
        return best;
    }

    int shift(int step, int tone) {
        if (badStep(step) || badTone(tone)) {
            return -2;
        }
        int[] before = now().tone;
        int[] then = with(step, tone).tone;
        int found = 0;
        for (int n = 0; n <= 60; n++) {
            found += before[n] == then[n] ? 0 : 1;
        }
        return found;
    }

    int heals(int step, int tone) {
        if (badStep(step) || badTone(tone)) {
            return -2;
        }
        int[] before = now().tone;
        int[] then = with(step, tone).tone;
        for (int n = step + 1; n <= 60; n++) {
            if (Arrays.equals(Arrays.copyOfRange(before, n, 61), Arrays.copyOfRange(then, n, 61))) {
                return n;
            }
        }
        return -1;
    }

    int worst(int step) {
        if (badStep(step)) {
            return -2;
        }
        int best = -1;
        int most = 0;
        for (int tone = 0; tone < s.tones; tone++) {
            int moved = shift(step, tone);
            if (moved > most) {
                most = moved;
                best = tone;
            }
        }
        return best;
    }

    private List<State> triples() {
        List<State> all = new ArrayList<>();
        for (int k = 0; k < s.tones * s.tones * s.tones; k++) {
            State t = s.copy();
            t.acts.clear();
            t.a = k / (s.tones * s.tones);
            t.b = k / s.tones % s.tones;
            t.c = k % s.tones;
            all.add(t);
        }
        return all;
    }

    int pretty() {
        if (none()) {
            return -2;
        }
        int best = -1;
        int most = -1;
        for (State t : triples()) {
            int pips = pipSteps(hear(t, Map.of(), 60)).size();
            if (pips > most) {
                most = pips;
                best = 100 * t.a + 10 * t.b + t.c;
            }
        }
        return best;
    }

    int silent() {
        if (none()) {
            return -2;
        }
        int found = 0;
        for (State t : triples()) {
            found += pipSteps(hear(t, Map.of(), 60)).isEmpty() ? 1 : 0;
        }
        return found;
    }

    int tuned() {
        if (none()) {
            return -2;
        }
        int best = -1;
        int soonest = 100;
        for (int c = 0; c < s.tones; c++) {
            State t = s.copy();
            t.c = c;
            int wed = firstOf(pipSteps(hear(t, t.words(), 60)));
            if (wed != -1 && wed < soonest) {
                soonest = wed;
                best = c;
            }
        }
        return best;
    }

    /** Whether the tone can be heard at the step from there on with just so many words more. */
    private boolean can(int[] goal, int n, int last, int answer, int words, Map<Integer, Boolean> known) {
        if (words < 0) {
            return false;
        }
        if (n == goal[0]) {
            return words == 0 && s.own(n, last, answer) == goal[1];
        }
        int key = ((n * 10 + last) * 10 + answer) * 100 + words;
        Boolean before = known.get(key);
        if (before != null) {
            return before;
        }
        boolean found = false;
        for (int word = -1; word < s.tones && !found; word++) {
            int heard = word == -1 ? s.own(n, last, answer) : word;
            boolean may = word == -1 || goal[2] == 0 || s.gap(n);
            found = may && can(goal, n + 1, s.gap(n) ? last : heard, s.gap(n) ? heard : answer,
                    word == -1 ? words : words - 1, known);
        }
        known.put(key, found);
        return found;
    }

    private int fewest(int step, int tone, int gapsAlone) {
        if (s.signs.isEmpty()) {
            return -1;
        }
        for (int words = 0; words <= Math.min(step, 5); words++) {
            if (can(new int[] {step, tone, gapsAlone}, 0, 0, 0, words, new HashMap<>())) {
                return words;
            }
        }
        return -1;
    }

    int reach(int step) {
        if (badPlan(step)) {
            return -2;
        }
        int bits = 0;
        for (int tone = 0; tone < s.tones; tone++) {
            bits |= fewest(step, tone, 0) == -1 ? 0 : 1 << tone;
        }
        return bits;
    }

    int needs(int step, int tone) {
        return badPlan(step) || badTone(tone) ? -2 : fewest(step, tone, 0);
    }

    int quietly(int step, int tone) {
        return badPlan(step) || badTone(tone) ? -2 : fewest(step, tone, 1);
    }

    int plan(int step, int tone, int i) {
        if (badPlan(step) || badTone(tone) || badPlan(i)) {
            return -2;
        }
        int left = fewest(step, tone, 0);
        if (left == -1 || i >= step) {
            return -1;
        }
        int[] goal = {step, tone, 0};
        Map<Integer, Boolean> known = new HashMap<>();
        int last = 0;
        int answer = 0;
        for (int n = 0; ; n++) {
            for (int word = -1; word < s.tones; word++) {
                int heard = word == -1 ? s.own(n, last, answer) : word;
                int l = s.gap(n) ? last : heard;
                int w = s.gap(n) ? heard : answer;
                int rest = word == -1 ? left : left - 1;
                if (can(goal, n + 1, l, w, rest, known)) {
                    if (n == i) {
                        return word;
                    }
                    last = l;
                    answer = w;
                    left = rest;
                    break;
                }
            }
        }
    }

    int sooner(int step, int tone) {
        return badStep(step) || badTone(tone) ? -2 : firstOf(pipSteps(with(step, tone)));
    }

    int mend(int step, int tone) {
        if (badPlan(step) || badTone(tone)) {
            return -2;
        }
        if (s.signs.isEmpty()) {
            return 0;
        }
        Heard base = hear(s, Map.of(), 60);
        for (int words = 0; words <= 20; words++) {
            if (mendable(base, step, tone, words)) {
                return words;
            }
        }
        return -1;
    }

    /** Goes through all that can be ahead of each step behind with so many words at most. */
    private boolean mendable(Heard base, int step, int tone, int words) {
        Set<List<Integer>> ahead = new HashSet<>();
        ahead.add(s.gap(step) ? List.of(base.last[step], tone, words) : List.of(tone, base.answer[step], words));
        for (int n = step + 1; n <= 60; n++) {
            Set<List<Integer>> behind = new HashSet<>();
            for (List<Integer> at : ahead) {
                if (at.get(0) == base.last[n] && at.get(1) == base.answer[n]) {
                    return true;
                }
                int own = s.own(n, at.get(0), at.get(1));
                behind.add(s.gap(n) ? List.of(at.get(0), own, at.get(2)) : List.of(own, at.get(1), at.get(2)));
                for (int word = 0; word < s.tones && at.get(2) > 0; word++) {
                    int left = at.get(2) - 1;
                    behind.add(s.gap(n) ? List.of(at.get(0), word, left) : List.of(word, at.get(1), left));
                }
            }
            ahead = behind;
        }
        return false;
    }

    private int[] circle() {
        if (s.signs.isEmpty()) {
            return new int[] {-1, -1, -1};
        }
        Heard h = hear(s, Map.of(), 1400);
        for (int m = 1; ; m++) {
            for (int k = 0; k < m; k++) {
                if (k % s.signs.size() == m % s.signs.size() && h.last[k] == h.last[m] && h.answer[k] == h.answer[m]) {
                    int births = 0;
                    for (int n = k; n < m; n++) {
                        births += h.pip[n] ? 1 : 0;
                    }
                    return new int[] {k, m - k, births};
                }
            }
        }
    }

    int settles() {
        return none() ? -2 : circle()[0];
    }

    int round() {
        return none() ? -2 : circle()[1];
    }

    int births() {
        return none() ? -2 : circle()[2];
    }

    int far(int n) {
        if (none() || n < 0 || n > 2_000_000_000) {
            return -2;
        }
        if (s.signs.isEmpty()) {
            return -1;
        }
        int[] circle = circle();
        int alike = n;
        if (n > 1300) {
            long over = ((long) n - circle[0]) / circle[1] * circle[1];
            alike = (int) (n - over);
        }
        return hear(s, Map.of(), 1400).tone[alike];
    }

    private int rowTrouble(int slot, int first, int second) {
        if (slot < 0 || slot > 3 || none()) {
            return -2;
        }
        if (rows[slot] == null) {
            return -6;
        }
        if (rows[slot].length % 2 == 1) {
            return -2;
        }
        for (int i = 0; i < rows[slot].length; i++) {
            long v = rows[slot][i];
            if (v < 0 || v > (i % 2 == 0 ? first : second)) {
                return -2;
            }
        }
        return 0;
    }

    private List<State> fitting(int slot) {
        List<State> fit = new ArrayList<>();
        for (State t : triples()) {
            int[] heard = hear(t, Map.of(), 60).tone;
            boolean ok = true;
            for (int i = 0; i < rows[slot].length; i += 2) {
                ok &= heard[(int) rows[slot][i]] == rows[slot][i + 1];
            }
            if (ok) {
                fit.add(t);
            }
        }
        return fit;
    }

    int laws(int slot) {
        int trouble = rowTrouble(slot, 60, s.tones - 1);
        return trouble != 0 ? trouble : fitting(slot).size();
    }

    int law(int slot) {
        int trouble = rowTrouble(slot, 60, s.tones - 1);
        if (trouble != 0) {
            return trouble;
        }
        List<State> fit = fitting(slot);
        return fit.isEmpty() ? -1 : 100 * fit.get(0).a + 10 * fit.get(0).b + fit.get(0).c;
    }

    private int[] question(int slot) {
        List<int[]> nights = new ArrayList<>();
        for (State t : fitting(slot)) {
            nights.add(hear(t, Map.of(), 60).tone);
        }
        int best = -1;
        int least = nights.size();
        for (int step = 0; step <= 60; step++) {
            Map<Integer, Integer> groups = new HashMap<>();
            for (int[] night : nights) {
                groups.merge(night[step], 1, Integer::sum);
            }
            int worst = groups.values().stream().max(Integer::compare).orElse(0);
            if (worst < least) {
                least = worst;
                best = step;
            }
        }
        return new int[] {best, least};
    }

    int ask(int slot) {
        int trouble = rowTrouble(slot, 60, s.tones - 1);
        return trouble != 0 ? trouble : question(slot)[0];
    }

    int leaves(int slot) {
        int trouble = rowTrouble(slot, 60, s.tones - 1);
        return trouble != 0 ? trouble : question(slot)[1];
    }

    private Map<Integer, Integer> sources(int slot) {
        Map<Integer, Integer> sources = new TreeMap<>();
        for (int place = 0; place <= 99; place++) {
            Set<Integer> sent = new HashSet<>();
            for (int i = 0; i < rows[slot].length; i += 2) {
                sent.add((int) rows[slot][i + 1] - Math.abs(place - s.posts.get((int) rows[slot][i])));
            }
            if (sent.size() <= 1 && (sent.isEmpty() || sent.iterator().next() >= 0)) {
                sources.put(place, sent.isEmpty() ? 0 : sent.iterator().next());
            }
        }
        return sources;
    }

    int places(int slot) {
        int trouble = rowTrouble(slot, s.posts.size() - 1, 999);
        return trouble != 0 ? trouble : sources(slot).size();
    }

    int place(int slot) {
        int trouble = rowTrouble(slot, s.posts.size() - 1, 999);
        return trouble != 0 ? trouble : sources(slot).keySet().stream().min(Integer::compare).orElse(-1);
    }

    int farther(int slot) {
        int trouble = rowTrouble(slot, s.posts.size() - 1, 999);
        return trouble != 0 ? trouble : sources(slot).keySet().stream().max(Integer::compare).orElse(-1);
    }

    int set(int slot) {
        int trouble = rowTrouble(slot, s.posts.size() - 1, 999);
        if (trouble != 0) {
            return trouble;
        }
        if (rows[slot].length == 0) {
            return -2;
        }
        Map<Integer, Integer> sources = sources(slot);
        int best = -1;
        int least = sources.size();
        for (int post = 0; post <= 99; post++) {
            Map<Integer, Integer> groups = new HashMap<>();
            for (Map.Entry<Integer, Integer> e : sources.entrySet()) {
                groups.merge(e.getValue() + Math.abs(e.getKey() - post), 1, Integer::sum);
            }
            int worst = groups.values().stream().max(Integer::compare).orElse(0);
            if (worst < least) {
                least = worst;
                best = post;
            }
        }
        return best;
    }

    int spread(int place) {
        if (none() || place < 0 || place > 99) {
            return -2;
        }
        if (s.posts.isEmpty()) {
            return -1;
        }
        int[] ways = s.posts.stream().mapToInt(p -> Math.abs(p - place)).sorted().toArray();
        return ways[ways.length - 1] - ways[0];
    }

    int blind() {
        if (none()) {
            return -2;
        }
        Map<List<Integer>, Integer> groups = new HashMap<>();
        for (int place = 0; place <= 99; place++) {
            List<Integer> later = new ArrayList<>();
            for (int p : s.posts) {
                later.add(Math.abs(p - place) - Math.abs(s.posts.get(0) - place));
            }
            groups.merge(later, 1, Integer::sum);
        }
        return groups.values().stream().mapToInt(g -> g * (g - 1) / 2).sum();
    }

    private List<Integer> pairs(int tone) {
        List<Integer> pairs = new ArrayList<>();
        for (int pair = 0; pair < 100; pair++) {
            int i = pair / 10;
            int j = pair % 10;
            if (i < j && j < s.signs.size()) {
                int x = s.signs.get(i);
                int y = s.signs.get(j);
                if (x != -1 && y != -1 && x != y && (x + y) % s.tones == tone) {
                    pairs.add(pair);
                }
            }
        }
        return pairs;
    }

    int parents(int tone) {
        return badTone(tone) ? -2 : pairs(tone).size();
    }

    int parent(int tone) {
        return badTone(tone) ? -2 : firstOf(pairs(tone));
    }

    int clock(int n, int per) {
        if (none() || n < 0 || n > 999 || per < -50 || per > 50) {
            return -1_000_000;
        }
        List<Integer> steps = pipSteps(now());
        int ahead = 0;
        for (int step = 0; step <= n; step++) {
            ahead = step == 0 ? 0 : ahead + per;
            ahead = steps.contains(step) ? 0 : ahead;
        }
        return ahead;
    }

    int cool() {
        if (none()) {
            return -2;
        }
        List<Integer> walls = new ArrayList<>(List.of(-1));
        walls.addAll(pipSteps(now()));
        walls.add(61);
        int most = 0;
        for (int k = 1; k < walls.size(); k++) {
            most = Math.max(most, walls.get(k) - walls.get(k - 1) - 1);
        }
        return most;
    }

    int rests() {
        int found = 0;
        for (int x = 0; x < 4; x++) {
            for (int y = 0; y < 4; y++) {
                boolean rest = true;
                for (int z = 0; z < 4; z++) {
                    rest &= sounds(z, y) <= sounds(x, y) && sounds(z, x) <= sounds(y, x);
                }
                found += rest ? 1 : 0;
            }
        }
        return found;
    }

    int sounds(int x, int y) {
        if (x < 0 || x > 3 || y < 0 || y > 3) {
            return -1000;
        }
        return (x > y ? 10 : x == y ? 4 : 0) - x * x;
    }

    int best(int y) {
        if (y < 0 || y > 3) {
            return -2;
        }
        for (int x = 0; x < 4; x++) {
            if (sounds(x, y) >= Math.max(Math.max(sounds(0, y), sounds(1, y)), Math.max(sounds(2, y), sounds(3, y)))) {
                return x;
            }
        }
        return -99;
    }

    private BigInteger[] fraction(int step) {
        BigInteger above = BigInteger.ONE;
        BigInteger below = BigInteger.ONE;
        for (int n = 0; n <= step; n++) {
            if (s.gap(n) && !s.words().containsKey(n)) {
                above = above.multiply(BigInteger.valueOf(10 - s.odds));
                below = below.multiply(BigInteger.TEN);
            }
        }
        BigInteger common = above.gcd(below);
        return new BigInteger[] {above.divide(common), below.divide(common)};
    }

    long chance(int step, int what) {
        return none() || step < 0 || step > 17 || what < 0 || what > 1 ? -2 : fraction(step)[what].longValueExact();
    }

    int sure(int p) {
        if (none() || p < 0 || p > 100) {
            return -2;
        }
        int lastStep = -1;
        for (int step = 0; step <= 17; step++) {
            BigInteger[] f = fraction(step);
            BigInteger hundred = BigInteger.valueOf(100);
            if (f[0].multiply(hundred).compareTo(f[1].multiply(BigInteger.valueOf(p))) >= 0) {
                lastStep = step;
            }
        }
        return lastStep;
    }

    int speak(int step, int tone) {
        if (badStep(step) || (tone != -1 && badTone(tone))) {
            return -2;
        }
        if (s.acts.size() == 30) {
            return -5;
        }
        int before = s.words().getOrDefault(step, -1);
        s.acts.add(new int[] {step, tone});
        return before;
    }

    int spoken(int step) {
        return badStep(step) ? -2 : s.words().getOrDefault(step, -1);
    }

    int undo() {
        if (none()) {
            return -2;
        }
        if (s.acts.isEmpty()) {
            return -5;
        }
        s.acts.remove(s.acts.size() - 1);
        return s.acts.size();
    }

    int anew() {
        if (none()) {
            return -2;
        }
        int were = s.acts.size();
        s.acts.clear();
        return were;
    }

    private int[] draw(long seed, int to) {
        BigInteger x = BigInteger.valueOf(seed);
        int last = 0;
        int answer = 0;
        int lost = 0;
        int tone = -1;
        Map<Integer, Integer> words = s.words();
        for (int n = 0; n <= to && !s.signs.isEmpty(); n++) {
            tone = words.containsKey(n) ? words.get(n) : s.own(n, last, answer);
            if (!s.gap(n)) {
                last = tone;
                continue;
            }
            if (!words.containsKey(n)) {
                x = x.multiply(BigInteger.valueOf(1103515245)).add(BigInteger.valueOf(12345));
                x = x.mod(BigInteger.TWO.pow(31));
                if (x.shiftRight(16).mod(BigInteger.TEN).intValue() < s.odds) {
                    tone = -1;
                    lost++;
                    continue;
                }
            }
            answer = tone;
        }
        return new int[] {tone, lost, answer};
    }

    int drawn(int seed, int step, int what) {
        boolean bad = badStep(step) || seed < 0 || seed > 2_000_000_000 || what < 0 || what > 2;
        return bad ? -2 : draw(seed, step)[what];
    }

    int luck(int seed, int n, int step, int tone) {
        if (badStep(step) || badTone(tone) || seed < 0 || seed > 2_000_000_000 || n < 1 || n > 20) {
            return -2;
        }
        int found = 0;
        for (long k = seed; k < (long) seed + n; k++) {
            found += draw(k, step)[0] == tone ? 1 : 0;
        }
        return found;
    }

    int tune(int n) {
        if (badTone(n)) {
            return -2;
        }
        if (!s.acts.isEmpty()) {
            return -5;
        }
        int was = s.c;
        s.c = n;
        return was;
    }

    int count(int what) {
        int slots = 0;
        for (long[] row : rows) {
            slots += row == null ? 0 : 1;
        }
        int[] all = {s.tones, s.a, s.b, s.c, s.d, s.odds, s.signs.size(), s.posts.size(), s.acts.size(), s.lines,
            tape.length(), slots};
        return what < 0 || what >= all.length ? -1 : all[what];
    }

    int image(int k) {
        if (k < 0 || k > 2) {
            return -2;
        }
        images[k] = s.copy();
        return 0;
    }

    int back(int k) {
        if (k < 0 || k > 2) {
            return -2;
        }
        if (images[k] == null) {
            return -6;
        }
        s = images[k].copy();
        return 0;
    }

    int row(int slot, int width, int n) {
        if (slot < 0 || slot > 3 || width < 0 || width > 3 || n > 60) {
            return -2;
        }
        if (n < 0) {
            return -3;
        }
        rows[slot] = new long[n];
        widths[slot] = width;
        return 0;
    }

    int write(int slot, int i, long v) {
        if (slot < 0 || slot > 3) {
            return -2;
        }
        if (rows[slot] == null) {
            return -6;
        }
        if (i < 0 || i >= rows[slot].length) {
            return -7;
        }
        int bits = 64 - (8 << widths[slot]);
        rows[slot][i] = v << bits >> bits;
        return 0;
    }

    int paste(int slot, int i, int to, int k, int n) {
        if (slot < 0 || slot > 3 || to < 0 || to > 3) {
            return -2;
        }
        if (rows[slot] == null || rows[to] == null) {
            return -6;
        }
        if (widths[slot] != widths[to]) {
            return -8;
        }
        if (i < 0 || k < 0 || n < 0 || (long) i + n > rows[slot].length || (long) k + n > rows[to].length) {
            return -7;
        }
        long[] were = rows[slot].clone();
        for (int j = 0; j < n; j++) {
            rows[to][k + j] = were[i + j];
        }
        return 0;
    }
}
