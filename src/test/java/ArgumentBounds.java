import java.util.ArrayList;
import java.util.List;

/**
 * Every argument of every promise that bounds one, the same way: inside its bounds the call is not refused, one
 * outside them it is, and then all stays as it was. What is answered inside is asked by the other tests.
 */
final class ArgumentBounds {
    private static final int[] SLOT = {0, 3};
    private static final int[] STEP = {0, 60};
    private static final int[] PLAN_STEP = {0, 40};
    private static final int[] TONE = {0, 4};
    private static final int[] ONLY_ASK = {13, 17, 18, 19, 21, 22, 28, 29, 30, 33, 34, 35, 36, 54};
    private static final int[] SEED = {0, 2_000_000_000};

    private interface Call {
        long answer(IntervalSignal x, int[] v);
    }

    private record Asked(int promise, String name, int refusal, boolean needsStation, Call call, int[][] bounds) {
    }

    private final Check check;
    private final List<Asked> calls = new ArrayList<>();

    private ArgumentBounds(Check check) {
        this.check = check;
        addNight();
        addWords();
        addSeen();
        addChance();
        addKept();
    }

    static void run(Check check) {
        ArgumentBounds bounds = new ArgumentBounds(check);
        for (Asked asked : bounds.calls) {
            bounds.inside(asked);
            bounds.outside(asked);
            bounds.withoutStation(asked);
        }
        bounds.withoutArguments();
        bounds.askingChangesNothing();
        bounds.answersDoNotDependOnWhatWasAsked();
        bounds.refusedActsChangeNothing();
    }

    private void add(int promise, String name, int refusal, Call call, int[]... bounds) {
        calls.add(new Asked(promise, name, refusal, true, call, bounds));
    }

    private void addFree(int promise, String name, int refusal, Call call, int[]... bounds) {
        calls.add(new Asked(promise, name, refusal, false, call, bounds));
    }

    private void addNight() {
        add(8, "heard", -2, (x, v) -> x.heard(v[0]), STEP);
        add(9, "last", -2, (x, v) -> x.last(v[0]), STEP);
        add(10, "answer", -2, (x, v) -> x.answer(v[0]), STEP);
        add(11, "gaps", -2, (x, v) -> x.gaps(v[0]), STEP);
        add(12, "pips", -2, (x, v) -> x.pips(v[0]), STEP);
        add(14, "first", -2, (x, v) -> x.first(v[0]), TONE);
        add(15, "often", -2, (x, v) -> x.often(v[0], v[1]), TONE, STEP);
        add(16, "all", -2, (x, v) -> x.all(v[0]), STEP);
        add(20, "unlike", -2, (x, v) -> x.unlike(v[0]), STEP);
        add(23, "when", -2, (x, v) -> x.when(v[0]), STEP);
        add(24, "echo", -2, (x, v) -> x.echo(v[0]), STEP);
        add(25, "shift", -2, (x, v) -> x.shift(v[0], v[1]), STEP, TONE);
        add(26, "heals", -2, (x, v) -> x.heals(v[0], v[1]), STEP, TONE);
        add(27, "worst", -2, (x, v) -> x.worst(v[0]), STEP);
        add(37, "far", -2, (x, v) -> x.far(v[0]), SEED);
        add(41, "sooner", -2, (x, v) -> x.sooner(v[0], v[1]), STEP, TONE);
        add(53, "clock", -1_000_000, (x, v) -> x.clock(v[0], v[1]), new int[] {0, 999}, new int[] {-50, 50});
    }

    private void addWords() {
        add(31, "reach", -2, (x, v) -> x.reach(v[0]), PLAN_STEP);
        add(38, "needs", -2, (x, v) -> x.needs(v[0], v[1]), PLAN_STEP, TONE);
        add(39, "plan", -2, (x, v) -> x.plan(v[0], v[1], v[2]), PLAN_STEP, TONE, PLAN_STEP);
        add(40, "quietly", -2, (x, v) -> x.quietly(v[0], v[1]), PLAN_STEP, TONE);
        add(42, "mend", -2, (x, v) -> x.mend(v[0], v[1]), PLAN_STEP, TONE);
        add(60, "speak", -2, (x, v) -> x.speak(v[0], v[1]), STEP, new int[] {-1, 4});
        add(61, "spoken", -2, (x, v) -> x.spoken(v[0]), STEP);
        add(66, "tune", -2, (x, v) -> x.tune(v[0]), TONE);
    }

    private void addSeen() {
        add(32, "spread", -2, (x, v) -> x.spread(v[0]), new int[] {0, 99});
        add(43, "laws", -2, (x, v) -> x.laws(v[0]), SLOT);
        add(44, "law", -2, (x, v) -> x.law(v[0]), SLOT);
        add(45, "ask", -2, (x, v) -> x.ask(v[0]), SLOT);
        add(46, "leaves", -2, (x, v) -> x.leaves(v[0]), SLOT);
        add(47, "places", -2, (x, v) -> x.places(v[0]), SLOT);
        add(48, "place", -2, (x, v) -> x.place(v[0]), SLOT);
        add(49, "farther", -2, (x, v) -> x.farther(v[0]), SLOT);
        add(50, "set", -2, (x, v) -> x.set(v[0]), SLOT);
        add(51, "parents", -2, (x, v) -> x.parents(v[0]), TONE);
        add(52, "parent", -2, (x, v) -> x.parent(v[0]), TONE);
    }

    private void addChance() {
        int[] loud = {0, 3};
        addFree(56, "sounds", -1_000, (x, v) -> x.sounds(v[0], v[1]), loud, loud);
        addFree(57, "best", -2, (x, v) -> x.best(v[0]), loud);
        add(58, "chance", -2, (x, v) -> x.chance(v[0], v[1]), new int[] {0, 17}, new int[] {0, 1});
        add(59, "sure", -2, (x, v) -> x.sure(v[0]), new int[] {0, 100});
        add(64, "drawn", -2, (x, v) -> x.drawn(v[0], v[1], v[2]), SEED, STEP, new int[] {0, 2});
        add(65, "luck", -2, (x, v) -> x.luck(v[0], v[1], v[2], v[3]), SEED, new int[] {1, 20}, STEP, TONE);
    }

    private void addKept() {
        int[] image = {0, 2};
        add(6, "sign", -2, (x, v) -> x.sign(v[0]), new int[] {0, 3});
        add(7, "post", -2, (x, v) -> x.post(v[0]), new int[] {0, 1});
        addFree(3, "end", -1, (x, v) -> x.end(v[0]), new int[] {0, 4});
        addFree(5, "fault", -1, (x, v) -> x.fault(v[0]), new int[] {0, 1});
        addFree(67, "count", -1, (x, v) -> x.count(v[0]), new int[] {0, 11});
        addFree(68, "image", -2, (x, v) -> x.image(v[0]), image);
        addFree(69, "back", -2, (x, v) -> x.back(v[0]), image);
        addFree(70, "row, SLOT and WIDTH", -2, (x, v) -> x.row(v[0], v[1], 3), SLOT, SLOT);
        addFree(71, "write, SLOT", -2, (x, v) -> x.write(v[0], 0, 1), SLOT);
        addFree(71, "write, number", -7, (x, v) -> x.write(0, v[0], 1), new int[] {0, 1});
        addFree(72, "paste, SLOTS", -2, (x, v) -> x.paste(v[0], 0, v[1], 0, 1), SLOT, SLOT);
        addFree(72, "paste, from and to", -7, (x, v) -> x.paste(0, v[0], 1, v[1], 1), new int[] {0, 1}, new int[] {0, 3});
        addFree(72, "paste, how many", -7, (x, v) -> x.paste(0, 0, 1, 2, v[0]), new int[] {0, 2});
    }

    /** Every SLOT has a row that is good for laws and for places, every IMAGE has something, the TAPE has a fault. */
    private static IntervalSignal prepared(boolean withActs) {
        IntervalSignal x = Check.of(Stations.B);
        x.speak(1, 2);
        x.image(0);
        Check.tell(x, Stations.PIPS);
        x.station();
        x.image(1);
        Check.tell(x, Stations.A);
        x.station();
        x.image(2);
        if (withActs) {
            x.speak(1, 4);
            x.speak(2, 0);
            x.speak(2, 3);
        }
        x.row(0, 1, 2);
        x.write(0, 1, 2);
        x.row(1, 1, 4);
        x.write(1, 1, 2);
        x.write(1, 3, 2);
        x.row(2, 1, 2);
        x.write(2, 1, 2);
        x.row(3, 1, 2);
        x.write(3, 1, 2);
        Check.tell(x, " \n x");
        x.station();
        return x;
    }

    /** All that can be asked of an object; it is another one then. */
    private static String state(IntervalSignal x) {
        StringBuilder told = new StringBuilder();
        for (int what = 0; what <= 11; what++) {
            told.append(x.count(what)).append(' ');
        }
        told.append(x.fault(0)).append(' ').append(x.fault(1)).append(" signs ");
        for (int k = 0; k < 8; k++) {
            told.append(x.sign(k)).append(' ').append(x.post(k)).append(' ');
        }
        for (int step = 0; step <= 60; step++) {
            told.append(x.spoken(step)).append(' ').append(x.heard(step)).append(' ');
        }
        told.append(" acts ");
        for (int k = 0; k < 31; k++) {
            told.append(x.undo()).append(' ').append(x.spoken(1)).append(' ').append(x.spoken(2)).append(' ');
        }
        told.append(" tape ").append(x.station()).append(' ').append(x.fault(1)).append(" images ");
        for (int k = 0; k < 3; k++) {
            told.append(x.back(k)).append(' ').append(x.count(0)).append(' ').append(x.count(3)).append(' ');
            told.append(x.count(8)).append(' ').append(x.spoken(0)).append(' ').append(x.spoken(1)).append(' ');
        }
        x.end(0);
        Check.tell(x, Stations.POST_AT_0);
        x.station();
        told.append(" rows ");
        for (int slot = 0; slot < 4; slot++) {
            told.append(x.farther(slot)).append(' ').append(x.places(slot)).append(' ').append(x.write(slot, 2, 0)).append(' ');
            told.append(x.write(slot, 3, 1)).append(' ').append(x.farther(slot)).append(' ');
        }
        return told.toString();
    }

    private void stays(String call, IntervalSignal x, boolean withActs) {
        check.due(call + " leaves all as it was", state(x).equals(state(prepared(withActs))) ? 1 : 0, 1);
    }

    private static int[] lowest(Asked asked) {
        int[] v = new int[asked.bounds.length];
        for (int i = 0; i < v.length; i++) {
            v[i] = asked.bounds[i][0];
        }
        return v;
    }

    private static int[] highest(Asked asked) {
        int[] v = new int[asked.bounds.length];
        for (int i = 0; i < v.length; i++) {
            v[i] = asked.bounds[i][1];
        }
        return v;
    }

    private static String shown(Asked asked, int[] v) {
        return asked.name + java.util.Arrays.toString(v);
    }

    private boolean withActs(Asked asked) {
        return asked.promise != 66;
    }

    private void inside(Asked asked) {
        check.about(asked.promise, "arguments at both ends of their bounds");
        int corners = 1 << asked.bounds.length;
        for (int corner = 0; corner < corners; corner++) {
            int[] v = new int[asked.bounds.length];
            for (int i = 0; i < v.length; i++) {
                v[i] = asked.bounds[i][corner >> i & 1];
            }
            long got = asked.call.answer(prepared(withActs(asked)), v);
            check.due(shown(asked, v) + " is refused", got == asked.refusal ? 1 : 0, 0);
        }
    }

    private void outside(Asked asked) {
        check.about(asked.promise, "arguments outside their bounds");
        for (int i = 0; i < asked.bounds.length; i++) {
            int low = asked.bounds[i][0];
            int high = asked.bounds[i][1];
            for (int wrong : new int[] {low - 1, high + 1, Integer.MIN_VALUE, Integer.MAX_VALUE, low - 256, low - 65536}) {
                int[] v = lowest(asked);
                v[i] = wrong;
                IntervalSignal x = prepared(withActs(asked));
                check.due(shown(asked, v), asked.call.answer(x, v), asked.refusal);
                stays(shown(asked, v), x, withActs(asked));
            }
        }
        int[] v = lowest(asked);
        java.util.Arrays.fill(v, Integer.MIN_VALUE);
        check.due(shown(asked, v), asked.call.answer(prepared(withActs(asked)), v), asked.refusal);
    }

    private void withoutStation(Asked asked) {
        if (!asked.needsStation) {
            return;
        }
        check.about(asked.promise, "no STATION");
        IntervalSignal x = prepared(false);
        x.end(0);
        x.station();
        check.due(shown(asked, lowest(asked)), asked.call.answer(x, lowest(asked)), asked.refusal);
        check.due("on a new object", asked.call.answer(new IntervalSignal(), lowest(asked)), asked.refusal);
    }

    private void withoutArguments() {
        int[] promises = {13, 17, 18, 19, 21, 22, 28, 29, 30, 33, 34, 35, 36, 54, 62, 63};
        for (int promise : promises) {
            check.about(promise, "no STATION");
            IntervalSignal none = new IntervalSignal();
            check.due("on a new object", withoutArguments(promise, none), -2);
            IntervalSignal gone = prepared(true);
            gone.end(0);
            gone.station();
            check.due("behind an empty TAPE", withoutArguments(promise, gone), -2);
            IntervalSignal back = new IntervalSignal();
            back.image(1);
            Check.tell(back, Stations.A);
            back.station();
            back.back(1);
            check.due("gone back to none", withoutArguments(promise, back), -2);
        }
    }

    private static int withoutArguments(int promise, IntervalSignal x) {
        return switch (promise) {
            case 13 -> x.wed();
            case 17 -> x.most();
            case 18 -> x.held();
            case 19 -> x.rises();
            case 21 -> x.falls();
            case 22 -> x.leap();
            case 28 -> x.pretty();
            case 29 -> x.silent();
            case 30 -> x.tuned();
            case 33 -> x.blind();
            case 34 -> x.settles();
            case 35 -> x.round();
            case 36 -> x.births();
            case 54 -> x.cool();
            case 62 -> x.undo();
            default -> x.anew();
        };
    }

    private static boolean onlyAsks(Asked asked) {
        return asked.promise != 3 && asked.promise != 60 && asked.promise != 66 && asked.promise < 68;
    }

    private void askingChangesNothing() {
        for (Asked asked : calls) {
            if (onlyAsks(asked)) {
                check.about(asked.promise, "nothing is changed by asking");
                IntervalSignal x = prepared(true);
                asked.call.answer(x, lowest(asked));
                asked.call.answer(x, highest(asked));
                stays(asked.name, x, true);
            }
        }
        for (int promise : ONLY_ASK) {
            check.about(promise, "nothing is changed by asking");
            IntervalSignal x = prepared(true);
            withoutArguments(promise, x);
            stays("it", x, true);
        }
        check.about(55, "nothing is changed by asking");
        IntervalSignal x = prepared(true);
        x.rests();
        stays("rests", x, true);
    }

    private void askAll(IntervalSignal x) {
        for (Asked asked : calls) {
            if (onlyAsks(asked)) {
                asked.call.answer(x, highest(asked));
                asked.call.answer(x, lowest(asked));
            }
        }
        for (int promise : ONLY_ASK) {
            withoutArguments(promise, x);
        }
    }

    /** The prepared one without acts, when all has been asked of it and, before, of another station. */
    private IntervalSignal askedBefore() {
        IntervalSignal x = prepared(false);
        x.back(0);
        askAll(x);
        x.back(2);
        return x;
    }

    private void answersDoNotDependOnWhatWasAsked() {
        for (Asked asked : calls) {
            if (onlyAsks(asked)) {
                check.about(asked.promise, "whatever was asked before");
                for (int[] v : new int[][] {lowest(asked), highest(asked)}) {
                    long first = asked.call.answer(prepared(false), v);
                    check.due(shown(asked, v), asked.call.answer(askedBefore(), v), first);
                }
            }
        }
        for (int promise : ONLY_ASK) {
            check.about(promise, "whatever was asked before");
            check.due("it", withoutArguments(promise, askedBefore()), withoutArguments(promise, prepared(false)));
        }
    }

    /** Refused for another reason than a bound of an argument. */
    private void refusedActsChangeNothing() {
        check.about(4, "a fault: all stays");
        IntervalSignal x = prepared(true);
        check.due("station", x.station(), -4);
        stays("station", x, true);
        check.about(2, "refused, none come");
        x = prepared(true);
        for (int k = 0; k < 24; k++) {
            x.feed(0, 0, 0, 0, 0);
        }
        check.due("feed", x.feed(0, 0, 0, 0, 0), -1);
        check.due("end", x.end(4), 4);
        stays("feed", x, true);
        check.about(62, "none to take back: all stays");
        x = prepared(false);
        check.due("undo", x.undo(), -5);
        stays("undo", x, false);
        check.about(63, "none to take back: all stays");
        x = prepared(false);
        check.due("anew", x.anew(), 0);
        stays("anew", x, false);
        check.about(66, "acts are there: all stays");
        x = prepared(true);
        check.due("tune", x.tune(3), -5);
        stays("tune", x, true);
        check.about(70, "n below 0: all stays");
        x = prepared(true);
        check.due("row", x.row(0, 0, -1), -3);
        check.due("row", x.row(0, 0, 61), -2);
        stays("row", x, true);
        check.about(72, "beyond: all stays");
        x = prepared(true);
        check.due("paste", x.paste(1, 0, 0, 0, 3), -7);
        check.due("paste", x.paste(0, 0, 1, 3, 2), -7);
        stays("paste", x, true);
    }
}
