import java.math.BigInteger;
import java.util.ArrayList;
import java.util.Arrays;
import java.util.List;
import java.util.Random;

/**
 * The promises held against one another: what a call answers is due from what other calls answer for a station that is
 * told anew, spoken over, tuned or measured just as the document's terms say. What no other call tells is worked out
 * here from the term itself: tones step by step (II), places (VII), chances and draws (IX). Plans are gone through to
 * 4 steps, mends to one word, and a post more where at most 12 places fit. No object gets more than 512 calls. The
 * seeds are fixed.
 */
public final class TogetherTest {
    private static final int NONE = IntervalSignal.NONE;
    private static final int STATIONS = 120;

    private static final Check check = new Check();

    private final Random random;
    private final Told told;

    private TogetherTest(int seed, int mostTones) {
        random = new Random(seed);
        told = Told.random(random, mostTones);
    }

    public static void main(String[] args) {
        int stations = args.length > 0 ? Integer.parseInt(args[0]) : STATIONS;
        int from = args.length > 1 ? Integer.parseInt(args[1]) : 0;
        rivals();
        for (int seed = from; seed < from + stations; seed++) {
            new TogetherTest(seed, 9).anyStation();
            new TogetherTest(seed, 3).smallStation();
        }
        check.close();
    }

    /** What can be gone through whatever the station is. */
    private void anyStation() {
        heardStepByStep();
        countedFromHeard();
        pipsFromWhen();
        oneWordMore();
        tuned();
        goesRound();
        plansSpoken();
        placesMeasured();
        blindPairs();
        parents();
        chances();
        draws();
        actsTakenBack();
    }

    /** What takes all triples, all plans or all mends. */
    private void smallStation() {
        lawsTold();
        lawsSeen();
        allPlans();
        mends();
        postMore();
    }

    private void part(int promise) {
        check.part("promise " + promise + " of " + told);
    }

    private static void due(String call, long got, long want) {
        check.due(call, got, want);
    }

    private static int[] heard(IntervalSignal x) {
        int[] tones = new int[61];
        for (int n = 0; n <= 60; n++) {
            tones[n] = x.heard(n);
        }
        return tones;
    }

    /** 100 times LAST and ANSWER ahead of each step: only whether they are alike is asked. */
    private static int[] ahead(IntervalSignal x) {
        int[] both = new int[61];
        for (int n = 0; n <= 60; n++) {
            both[n] = 100 * x.last(n) + x.answer(n);
        }
        return both;
    }

    // ---- the night (8 to 24, 53, 54, 61)

    private void heardStepByStep() {
        IntervalSignal x = told.spoken();
        int last = 0;
        int answer = 0;
        for (int n = 0; n <= 60; n++) {
            part(9);
            due("last(" + n + ")", x.last(n), last);
            part(10);
            due("answer(" + n + ")", x.answer(n), answer);
            part(8);
            if (told.signs.isEmpty()) {
                due("heard(" + n + ")", x.heard(n), NONE);
                continue;
            }
            int word = x.spoken(n);
            int note = x.sign(n % told.signs.size());
            int own = note == NONE ? told.a * last + told.b * answer + told.c : note + told.d * answer;
            int tone = word == NONE ? own % told.tones : word;
            due("heard(" + n + ")", x.heard(n), tone);
            if (note == NONE) {
                answer = tone;
            } else {
                last = tone;
            }
        }
        part(61);
        int[] words = new int[61];
        Arrays.fill(words, NONE);
        for (int[] act : told.acts) {
            words[act[0]] = act[1];
        }
        for (int n = 0; n <= 60; n++) {
            due("spoken(" + n + ")", x.spoken(n), words[n]);
        }
    }

    private void countedFromHeard() {
        int[] tones = heard(told.spoken());
        IntervalSignal x = told.spoken();
        int to = random.nextInt(61);
        int bits = 0;
        int mostTone = NONE;
        for (int tone = told.tones - 1; tone >= 0; tone--) {
            int first = NONE;
            int often = 0;
            int inAll = 0;
            for (int n = 60; n >= 0; n--) {
                first = tones[n] == tone ? n : first;
                often += tones[n] == tone && n <= to ? 1 : 0;
                inAll += tones[n] == tone ? 1 : 0;
            }
            bits += often > 0 ? 1 << tone : 0;
            part(14);
            due("first(" + tone + ")", x.first(tone), first);
            part(15);
            due("often(" + tone + ", " + to + ")", x.often(tone, to), often);
            mostTone = inAll > 0 && (mostTone == NONE || inAll >= x.often(mostTone, 60)) ? tone : mostTone;
        }
        part(16);
        due("all(" + to + ")", x.all(to), bits);
        part(17);
        due("most()", x.most(), mostTone);
        part(20);
        due("unlike(" + to + ")", x.unlike(to), Integer.bitCount(bits));
        neighbours(x, tones);
        part(24);
        int echo = NONE;
        for (int n = 0; n < to; n++) {
            echo = tones[n] == tones[to] && tones[n] != NONE ? n : echo;
        }
        due("echo(" + to + ")", x.echo(to), echo);
    }

    private void neighbours(IntervalSignal x, int[] tones) {
        int rises = 0;
        int falls = 0;
        int leap = 0;
        int held = tones[0] == NONE ? 0 : 1;
        int alike = held;
        for (int n = 1; n <= 60; n++) {
            rises += tones[n] > tones[n - 1] ? 1 : 0;
            falls += tones[n] < tones[n - 1] ? 1 : 0;
            leap = Math.max(leap, Math.abs(tones[n] - tones[n - 1]));
            alike = tones[n] == NONE ? 0 : tones[n] == tones[n - 1] ? alike + 1 : 1;
            held = Math.max(held, alike);
        }
        part(18);
        due("held()", x.held(), held);
        part(19);
        due("rises()", x.rises(), rises);
        part(21);
        due("falls()", x.falls(), falls);
        part(22);
        due("leap()", x.leap(), leap);
    }

    private void pipsFromWhen() {
        int[] tones = heard(told.spoken());
        int[] ahead = ahead(told.spoken());
        IntervalSignal x = told.spoken();
        int gaps = 0;
        int pips = 0;
        int wed = NONE;
        int cool = 0;
        int set = 0;
        int quiet = 0;
        int per = random.nextInt(101) - 50;
        for (int n = 0; n <= 60; n++) {
            boolean pip = told.gap(n) && tones[n] == ahead[n] / 100;
            gaps += told.gap(n) ? 1 : 0;
            part(23);
            if (pip) {
                due("when(" + pips + ")", x.when(pips), n);
            }
            pips += pip ? 1 : 0;
            wed = pip && wed == NONE ? n : wed;
            set = pip ? n : set;
            quiet = pip ? 0 : quiet + 1;
            cool = Math.max(cool, quiet);
            part(11);
            due("gaps(" + n + ")", x.gaps(n), gaps);
            part(12);
            due("pips(" + n + ")", x.pips(n), pips);
            part(53);
            due("clock(" + n + ", " + per + ")", x.clock(n, per), (n - set) * per);
        }
        due("clock(999, " + per + ")", x.clock(999, per), (999 - set) * per);
        part(23);
        due("when(" + pips + ")", x.when(pips), pips <= 60 ? NONE : -2);
        part(13);
        due("wed()", x.wed(), wed);
        part(54);
        due("cool()", x.cool(), cool);
    }

    // ---- one word more (25, 26, 27, 41) and another c (30)

    private void oneWordMore() {
        int step = random.nextInt(61);
        int[] before = heard(told.spoken());
        IntervalSignal x = told.spoken();
        int worst = NONE;
        int most = 0;
        for (int tone = 0; tone < told.tones; tone++) {
            IntervalSignal y = told.spoken();
            y.speak(step, tone);
            int[] then = heard(y);
            int shift = 0;
            int heals = NONE;
            for (int n = 0; n <= 60; n++) {
                boolean other = then[n] != before[n];
                shift += other ? 1 : 0;
                heals = n <= step || other ? NONE : heals == NONE ? n : heals;
            }
            String with = "(" + step + ", " + tone + ")";
            part(25);
            due("shift" + with, x.shift(step, tone), shift);
            part(26);
            due("heals" + with, x.heals(step, tone), heals);
            part(41);
            due("sooner" + with, x.sooner(step, tone), y.wed());
            worst = shift > most ? tone : worst;
            most = Math.max(most, shift);
        }
        part(27);
        due("worst(" + step + ")", x.worst(step), worst);
    }

    private void tuned() {
        int best = NONE;
        int soonest = 61;
        for (int c = 0; c < told.tones; c++) {
            int wed = told.withLaw(told.a, told.b, c).spoken().wed();
            if (wed != NONE && wed < soonest) {
                best = c;
                soonest = wed;
            }
        }
        part(30);
        due("tuned()", told.spoken().tuned(), best);
        part(66);
        IntervalSignal x = told.silent();
        int c = random.nextInt(told.tones);
        due("tune(" + c + ")", x.tune(c), told.c);
        due("heard like one told so", Arrays.equals(heard(x), heard(told.withLaw(told.a, told.b, c).silent())) ? 1 : 0, 1);
    }

    // ---- where it goes round (34 to 37)

    private void goesRound() {
        IntervalSignal x = told.spoken();
        if (told.signs.isEmpty()) {
            part(34);
            due("settles()", x.settles(), NONE);
            part(35);
            due("round()", x.round(), NONE);
            part(36);
            due("births()", x.births(), NONE);
            part(37);
            due("far(60)", x.far(60), NONE);
            return;
        }
        List<String> seen = new ArrayList<>();
        List<Boolean> pips = new ArrayList<>();
        int last = 0;
        int answer = 0;
        String now = "0 0 0";
        part(37);
        for (int n = 0; !seen.contains(now); n++) {
            x = n % 400 == 0 ? told.spoken() : x;
            seen.add(now);
            int tone = told.gap(n) ? told.a * last + told.b * answer + told.c
                    : told.signs.get(n % told.signs.size()) + told.d * answer;
            tone %= told.tones;
            due("far(" + n + ")", x.far(n), tone);
            pips.add(told.gap(n) && tone == last);
            last = told.gap(n) ? last : tone;
            answer = told.gap(n) ? tone : answer;
            now = (n + 1) % told.signs.size() + " " + last + " " + answer;
        }
        IntervalSignal y = told.spoken();
        int from = seen.indexOf(now);
        int round = seen.size() - from;
        int step = from + random.nextInt(round);
        int rounds = random.nextInt((2_000_000_000 - step) / round);
        due("far of a later round", y.far(step + rounds * round), y.far(step));
        part(34);
        due("settles()", y.settles(), from);
        part(35);
        due("round()", y.round(), round);
        part(36);
        due("births()", y.births(), pips.subList(from, pips.size()).stream().filter(pip -> pip).count());
    }

    // ---- plans (31, 38, 39, 40) and mends (42)

    /** The words of a plan are spoken: they bring the tone about, and no single word less does. */
    private void plansSpoken() {
        int step = random.nextInt(41);
        int tone = random.nextInt(told.tones);
        IntervalSignal x = told.spoken();
        int needs = x.needs(step, tone);
        part(31);
        due("reach(" + step + ")", x.reach(step) >> tone & 1, needs == NONE ? 0 : 1);
        IntervalSignal y = told.silent();
        int words = 0;
        for (int i = 0; i <= 40; i++) {
            int word = x.plan(step, tone, i);
            part(39);
            due("plan at or behind the step", i >= step && word != NONE ? 1 : 0, 0);
            if (word != NONE) {
                words++;
                y.speak(i, word);
            }
        }
        part(38);
        due("needs(" + step + ", " + tone + ")", needs, needs == NONE ? NONE : words);
        due("heard by the plan", y.heard(step) == tone ? 1 : 0, needs == NONE ? 0 : 1);
        if (needs != 0) {
            due("heard without words", told.silent().heard(step) == tone ? 1 : 0, 0);
        }
        if (needs > 1 || needs == NONE) {
            due("brought about by one word", oneWordBrings(step, tone) ? 1 : 0, 0);
        }
    }

    private boolean oneWordBrings(int step, int tone) {
        for (int i = 0; i < step; i++) {
            for (int word = 0; word < told.tones; word++) {
                if (told.silentBut(i, word).heard(step) == tone) {
                    return true;
                }
            }
        }
        return false;
    }

    /** Every row of words there can be ahead of a step, the least first. */
    private void allPlans() {
        int step = random.nextInt(5);
        int kinds = told.tones + 1;
        int rows = (int) Math.pow(kinds, step);
        int[][] first = new int[told.tones][];
        int[] fewest = new int[told.tones];
        int[] quietest = new int[told.tones];
        Arrays.fill(fewest, NONE);
        Arrays.fill(quietest, NONE);
        for (int k = 0; k < rows; k++) {
            int[] plan = new int[2 * step];
            int words = 0;
            boolean inGaps = true;
            for (int i = step - 1, rest = k; i >= 0; i--, rest /= kinds) {
                plan[2 * i] = i;
                plan[2 * i + 1] = rest % kinds - 1;
                words += rest % kinds > 0 ? 1 : 0;
                inGaps &= rest % kinds == 0 || told.gap(i);
            }
            int tone = told.silentBut(plan).heard(step);
            if (tone != NONE && (fewest[tone] == NONE || words < fewest[tone])) {
                fewest[tone] = words;
                first[tone] = plan;
            }
            if (tone != NONE && inGaps && (quietest[tone] == NONE || words < quietest[tone])) {
                quietest[tone] = words;
            }
        }
        comparePlans(step, first, fewest, quietest);
    }

    private void comparePlans(int step, int[][] first, int[] fewest, int[] quietest) {
        IntervalSignal x = told.spoken();
        int reach = 0;
        for (int tone = 0; tone < told.tones; tone++) {
            String to = "(" + step + ", " + tone + ")";
            reach += fewest[tone] == NONE ? 0 : 1 << tone;
            part(38);
            due("needs" + to, x.needs(step, tone), fewest[tone]);
            part(40);
            due("quietly" + to, x.quietly(step, tone), quietest[tone]);
            part(39);
            for (int i = 0; i < step; i++) {
                due("plan" + to + " at " + i, x.plan(step, tone, i), first[tone] == null ? NONE : first[tone][2 * i + 1]);
            }
        }
        part(31);
        due("reach(" + step + ")", x.reach(step), reach);
    }

    private void mends() {
        int step = random.nextBoolean() ? random.nextInt(41) : 35 + random.nextInt(6);
        int tone = random.nextInt(told.tones);
        int[] without = ahead(told.silent());
        int fewest = NONE;
        if (meets(step, without, ahead(told.silentBut(step, tone)))) {
            fewest = 0;
        }
        for (int i = step + 1; i <= 60 && fewest == NONE; i++) {
            for (int word = 0; word < told.tones && fewest == NONE; word++) {
                fewest = meets(step, without, ahead(told.silentBut(step, tone, i, word))) ? 1 : NONE;
            }
        }
        part(42);
        int mend = told.spoken().mend(step, tone);
        due("mend(" + step + ", " + tone + ")", fewest == NONE ? mend > 1 || mend == NONE ? 1 : 0 : mend - fewest,
                fewest == NONE ? 1 : 0);
    }

    private static boolean meets(int step, int[] without, int[] with) {
        for (int n = step + 1; n <= 60; n++) {
            if (without[n] == with[n]) {
                return true;
            }
        }
        return false;
    }

    // ---- by which law (28, 29, 43 to 46)

    private void lawsTold() {
        int most = NONE;
        int pretty = NONE;
        int silent = 0;
        for (Told other : told.withEachLaw()) {
            int pips = other.silent().pips(60);
            pretty = pips > most ? other.law() : pretty;
            most = Math.max(most, pips);
            silent += pips == 0 ? 1 : 0;
        }
        part(28);
        due("pretty()", told.spoken().pretty(), pretty);
        part(29);
        due("silent()", told.spoken().silent(), silent);
    }

    private void lawsSeen() {
        int[] tones = heard(told.silent());
        int pairs = random.nextInt(4);
        long[] row = new long[2 * pairs];
        for (int i = 0; i < row.length; i += 2) {
            int step = random.nextInt(random.nextBoolean() ? 61 : 6);
            row[i] = step;
            row[i + 1] = random.nextInt(4) == 0 ? random.nextInt(told.tones) : Math.max(0, tones[step]);
        }
        List<int[]> nights = new ArrayList<>();
        int first = NONE;
        for (Told other : told.withEachLaw()) {
            int[] night = heard(other.silent());
            boolean fits = true;
            for (int i = 0; i < row.length; i += 2) {
                fits &= night[(int) row[i]] == row[i + 1];
            }
            if (fits) {
                first = nights.isEmpty() ? other.law() : first;
                nights.add(night);
            }
        }
        IntervalSignal x = told.spoken();
        Check.fill(x, 2, row);
        String of = " of " + Arrays.toString(row);
        part(43);
        due("laws" + of, x.laws(2), nights.size());
        part(44);
        due("law" + of, x.law(2), first);
        bestQuestion(x, nights, of);
    }

    private void bestQuestion(IntervalSignal x, List<int[]> nights, String of) {
        int ask = NONE;
        int leaves = nights.size();
        for (int step = 0; step <= 60; step++) {
            int[] left = new int[told.tones + 1];
            for (int[] night : nights) {
                left[night[step] + 1]++;
            }
            int worst = Arrays.stream(left).max().getAsInt();
            ask = worst < leaves ? step : ask;
            leaves = Math.min(leaves, worst);
        }
        part(45);
        due("ask" + of, x.ask(2), ask);
        part(46);
        due("leaves" + of, x.leaves(2), leaves);
    }

    // ---- where it is (32, 33, 47 to 50)

    private long[] measured() {
        int place = random.nextInt(100);
        int sent = random.nextInt(random.nextBoolean() ? 900 : 3);
        int pairs = told.posts.isEmpty() ? 0 : random.nextInt(4);
        long[] row = new long[2 * pairs];
        for (int i = 0; i < row.length; i += 2) {
            int post = random.nextInt(told.posts.size());
            row[i] = post;
            row[i + 1] = sent + Math.abs(place - told.posts.get(post)) + (random.nextInt(9) == 0 ? 1 : 0);
        }
        return row;
    }

    /** Places from which all the row's minutes come if it was sent in some minute. */
    private List<int[]> sources(long[] row) {
        List<int[]> sources = new ArrayList<>();
        for (int place = 0; place <= 99; place++) {
            for (int sent = 0; sent <= 999; sent++) {
                boolean fits = true;
                for (int i = 0; i < row.length && fits; i += 2) {
                    fits = row[i + 1] == sent + Math.abs(place - told.posts.get((int) row[i]));
                }
                if (fits) {
                    sources.add(new int[] {place, sent});
                    break;
                }
            }
        }
        return sources;
    }

    private void placesMeasured() {
        long[] row = measured();
        List<int[]> sources = sources(row);
        IntervalSignal x = told.spoken();
        Check.fill(x, 1, row);
        String of = " of " + Arrays.toString(row);
        part(47);
        due("places" + of, x.places(1), sources.size());
        part(48);
        due("place" + of, x.place(1), sources.isEmpty() ? NONE : sources.get(0)[0]);
        part(49);
        due("farther" + of, x.farther(1), sources.isEmpty() ? NONE : sources.get(sources.size() - 1)[0]);
        part(32);
        int place = random.nextInt(100);
        int spread = NONE;
        for (int one : told.posts) {
            for (int other : told.posts) {
                spread = Math.max(spread, Math.abs(place - one) - Math.abs(place - other));
            }
        }
        due("spread(" + place + ")", x.spread(place), spread);
    }

    /** From each place all posts are told their minutes: the other places that fit are those it is not told from. */
    private void blindPairs() {
        int blind = 0;
        IntervalSignal x = null;
        for (int place = 0; place <= 99; place++) {
            x = place % 25 == 0 ? told.spoken() : x;
            long[] row = new long[2 * told.posts.size()];
            for (int k = 0; k < told.posts.size(); k++) {
                row[2 * k] = k;
                row[2 * k + 1] = 200 + Math.abs(place - told.posts.get(k));
            }
            Check.fill(x, 3, row);
            blind += x.places(3) - 1;
        }
        part(33);
        due("blind(), both ways round", 2 * told.spoken().blind(), blind);
    }

    /** A post more is told at each place, and its minutes are measured from each place that fits. */
    private void postMore() {
        long[] row = measured();
        IntervalSignal x = told.spoken();
        Check.fill(x, 1, row);
        String of = " of " + Arrays.toString(row);
        part(50);
        if (row.length == 0) {
            due("set" + of, x.set(1), -2);
            return;
        }
        List<int[]> sources = sources(row);
        if (told.posts.size() == 5 || sources.size() > 12) {
            return;
        }
        int set = NONE;
        int fewest = sources.size();
        for (int post = 0; post <= 99; post++) {
            int worst = 0;
            for (int[] source : sources) {
                long[] more = Arrays.copyOf(row, row.length + 2);
                more[row.length] = told.posts.size();
                more[row.length + 1] = source[1] + Math.abs(source[0] - post);
                IntervalSignal y = told.withPost(post).silent();
                Check.fill(y, 1, more);
                worst = Math.max(worst, y.places(1));
            }
            set = worst < fewest ? post : set;
            fewest = Math.min(fewest, worst);
        }
        due("set" + of, x.set(1), set);
    }

    // ---- of which two (51, 52), two who sound louder (55 to 57)

    private void parents() {
        IntervalSignal x = told.spoken();
        int tone = random.nextInt(told.tones);
        int parents = 0;
        int parent = NONE;
        for (int pair = 77; pair >= 0; pair--) {
            int one = x.sign(pair / 10);
            int other = x.sign(pair % 10);
            boolean notes = pair / 10 < pair % 10 && one >= 0 && other >= 0 && one != other;
            if (notes && (one + other) % told.tones == tone) {
                parents++;
                parent = pair;
            }
        }
        part(51);
        due("parents(" + tone + ")", x.parents(tone), parents);
        part(52);
        due("parent(" + tone + ")", x.parent(tone), parent);
    }

    private static void rivals() {
        IntervalSignal x = new IntervalSignal();
        int rests = 0;
        for (int one = 0; one <= 3; one++) {
            int best = 0;
            for (int other = 0; other <= 3; other++) {
                boolean rest = true;
                for (int another = 0; another <= 3; another++) {
                    rest &= x.sounds(another, other) <= x.sounds(one, other);
                    rest &= x.sounds(another, one) <= x.sounds(other, one);
                }
                rests += rest ? 1 : 0;
                best = x.sounds(other, one) > x.sounds(best, one) ? other : best;
            }
            check.part("promise 57");
            due("best(" + one + ")", x.best(one), best);
        }
        check.part("promise 55");
        due("rests()", x.rests(), rests);
    }

    // ---- chance (58, 59) and draws (64, 65)

    private void chances() {
        IntervalSignal x = told.spoken();
        int[] sure = new int[101];
        Arrays.fill(sure, NONE);
        BigInteger above = BigInteger.ONE;
        BigInteger below = BigInteger.ONE;
        for (int step = 0; step <= 17; step++) {
            if (told.gap(step) && x.spoken(step) == NONE) {
                above = above.multiply(BigInteger.valueOf(10 - told.odds));
                below = below.multiply(BigInteger.TEN);
            }
            BigInteger common = above.gcd(below);
            part(58);
            due("chance(" + step + ", 0)", x.chance(step, 0), above.divide(common).longValueExact());
            due("chance(" + step + ", 1)", x.chance(step, 1), below.divide(common).longValueExact());
            int inAHundred = above.multiply(BigInteger.valueOf(100)).divide(below).intValueExact();
            Arrays.fill(sure, 0, inAHundred + 1, step);
        }
        part(59);
        for (int p = 0; p <= 100; p++) {
            due("sure(" + p + ")", x.sure(p), sure[p]);
        }
    }

    /** A drawn night is one in which some answers are not there: all is heard as term II says it else. */
    private void draws() {
        IntervalSignal x = told.spoken();
        int seed = random.nextInt(2_000_000_001);
        BigInteger draw = BigInteger.valueOf(seed);
        int last = 0;
        int answer = 0;
        int lost = 0;
        for (int n = 0; n <= 60; n++) {
            int word = told.signs.isEmpty() ? NONE : x.spoken(n);
            int tone = word;
            boolean gone = false;
            if (told.gap(n) && word == NONE) {
                draw = draw.multiply(BigInteger.valueOf(1103515245)).add(BigInteger.valueOf(12345)).mod(BigInteger.TWO.pow(31));
                gone = draw.divide(BigInteger.valueOf(65536)).mod(BigInteger.TEN).intValue() < told.odds;
                tone = gone ? NONE : (told.a * last + told.b * answer + told.c) % told.tones;
            } else if (word == NONE && !told.signs.isEmpty()) {
                tone = (told.signs.get(n % told.signs.size()) + told.d * answer) % told.tones;
            }
            lost += gone ? 1 : 0;
            answer = told.gap(n) && !gone ? tone : answer;
            last = told.gap(n) || tone == NONE ? last : tone;
            part(64);
            due("drawn(" + seed + ", " + n + ", 0)", x.drawn(seed, n, 0), tone);
            due("drawn(" + seed + ", " + n + ", 1)", x.drawn(seed, n, 1), lost);
            due("drawn(" + seed + ", " + n + ", 2)", x.drawn(seed, n, 2), answer);
        }
        lucks(seed);
    }

    private void lucks(int seed) {
        IntervalSignal x = told.spoken();
        int step = random.nextInt(61);
        int tone = random.nextInt(told.tones);
        int from = Math.min(seed, 2_000_000_000 - 19);
        int found = 0;
        part(65);
        for (int n = 1; n <= 20; n++) {
            found += x.drawn(from + n - 1, step, 0) == tone ? 1 : 0;
            due("luck(" + from + ", " + n + ", " + step + ", " + tone + ")", x.luck(from, n, step, tone), found);
        }
    }

    // ---- acts and images (60, 62, 63, 67, 68, 69)

    private void actsTakenBack() {
        IntervalSignal x = told.silent();
        int kept = random.nextInt(told.acts.size() + 1);
        x.image(1);
        for (int i = 0; i < told.acts.size(); i++) {
            int[] act = told.acts.get(i);
            if (i == kept) {
                x.image(2);
            }
            part(60);
            due("speak", x.speak(act[0], act[1]), told.spokenBy(i).spoken(act[0]));
        }
        if (kept == told.acts.size()) {
            x.image(2);
        }
        int left = told.acts.size();
        while (left > kept) {
            left--;
            part(62);
            due("undo()", x.undo(), left);
        }
        due("heard when taken back", Arrays.equals(heard(x), heard(told.spokenBy(kept))) ? 1 : 0, 1);
        part(63);
        due("anew()", x.anew(), kept);
        due("heard anew", Arrays.equals(heard(x), heard(told.silent())) ? 1 : 0, 1);
        part(69);
        due("back(2)", x.back(2), 0);
        due("acts of the image", x.count(8), kept);
        due("heard as the image has it", Arrays.equals(heard(x), heard(told.spokenBy(kept))) ? 1 : 0, 1);
        for (int n = kept - 1; n >= 0; n--) {
            due("undo() of the image's acts", x.undo(), n);
        }
        due("back(1)", x.back(1), 0);
        due("heard as the first image has it", Arrays.equals(heard(x), heard(told.silent())) ? 1 : 0, 1);
    }
}
