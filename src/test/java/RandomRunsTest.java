import java.lang.reflect.InvocationTargetException;
import java.lang.reflect.Method;
import java.util.ArrayList;
import java.util.Arrays;
import java.util.Comparator;
import java.util.List;
import java.util.Random;

/** Random runs of up to 512 calls, each call's answer against the oracle's. The seeds are fixed. */
public final class RandomRunsTest {
    private static final int RUNS = 400;
    private static final int CALLS = 512;
    private static final int[] EDGES = {-2147483648, -1000, -51, -50, -2, -1, 61, 99, 100, 999, 1000, 2000000000,
        2000000001, 2147483647};

    private static final List<Method> METHODS = methods();
    private static final Check check = new Check();

    private final Random random;
    private final IntervalSignal program = new IntervalSignal();
    private final Oracle oracle = new Oracle();
    private final List<String> calls = new ArrayList<>();
    private boolean same = true;
    private int made;

    private RandomRunsTest(int seed) {
        random = new Random(seed);
    }

    public static void main(String[] args) {
        int runs = args.length > 0 ? Integer.parseInt(args[0]) : RUNS;
        int from = args.length > 1 ? Integer.parseInt(args[1]) : 0;
        for (int seed = from; seed < from + runs && check.wrong() < 10; seed++) {
            check.part("random run " + seed);
            new RandomRunsTest(seed).run();
        }
        check.close();
    }

    private static List<Method> methods() {
        List<Method> found = new ArrayList<>();
        for (Method m : IntervalSignal.class.getDeclaredMethods()) {
            if (java.lang.reflect.Modifier.isPublic(m.getModifiers())) {
                found.add(m);
            }
        }
        found.sort(Comparator.comparing(Method::getName));
        return found;
    }

    private void run() {
        if (random.nextInt(20) != 0) {
            tell();
        }
        while (made < CALLS && same) {
            int dice = random.nextInt(100);
            if (dice < 1) {
                tell();
            } else if (dice < 4) {
                fillLawRow();
            } else if (dice < 7) {
                fillPlaceRow();
            } else {
                randomCall();
            }
        }
    }

    private void randomCall() {
        Method m = METHODS.get(random.nextInt(METHODS.size()));
        String name = m.getName();
        boolean rare = List.of("feed", "end", "station", "anew", "row", "pretty", "silent", "tune", "blind").contains(name);
        if (rare && random.nextInt(6) != 0) {
            return;
        }
        Object[] args = new Object[m.getParameterCount()];
        for (int i = 0; i < args.length; i++) {
            if (m.getParameterTypes()[i] == long.class) {
                args[i] = random.nextInt(8) == 0 ? random.nextLong() : (long) random.nextInt(60);
            } else {
                args[i] = argument(name, i);
            }
        }
        call(m, args);
    }

    private int argument(String name, int i) {
        if (random.nextInt(25) == 0) {
            return EDGES[random.nextInt(EDGES.length)];
        }
        if (random.nextInt(25) == 0) {
            return random.nextInt();
        }
        int tones = Math.max(2, program.count(0));
        int tone = random.nextInt(12) == 0 ? -1 + random.nextInt(tones + 2) : random.nextInt(tones);
        int step = random.nextBoolean() ? random.nextInt(61) : random.nextInt(9);
        switch (name) {
            case "feed":
                return random.nextInt();
            case "first", "parents", "parent", "tune":
                return tone;
            case "often":
                return i == 0 ? tone : step;
            case "shift", "heals", "sooner":
                return i == 1 ? tone : step;
            case "speak":
                return i == 0 ? step : random.nextInt(5) == 0 ? -1 : tone;
            case "needs", "plan", "quietly", "mend", "reach":
                return i == 1 ? tone : step < 41 || random.nextInt(8) == 0 ? step : step - 20;
            case "far":
                return random.nextInt(3) == 0 ? random.nextInt(2_000_000_000) : random.nextInt(1500);
            case "clock":
                return i == 0 ? random.nextInt(3) == 0 ? random.nextInt(1000) : step : random.nextInt(103) - 51;
            case "chance":
                return i == 0 ? random.nextInt(19) : random.nextInt(2);
            case "sure":
                return random.nextInt(101);
            case "spread":
                return random.nextInt(100);
            case "drawn":
                return i == 0 ? random.nextInt(2_000_000_001) : i == 1 ? step : random.nextInt(3);
            case "luck":
                return i == 0 ? random.nextInt(2_000_000_001) : i == 1 ? 1 + random.nextInt(20) : i == 2 ? step : tone;
            case "row":
                return i == 0 ? random.nextInt(4) : i == 1 ? random.nextInt(4) : random.nextInt(12);
            case "write":
                return i == 0 ? random.nextInt(4) : random.nextInt(8);
            case "paste":
                return i == 0 || i == 2 ? random.nextInt(4) : random.nextInt(5);
            case "count":
                return random.nextInt(13);
            case "sounds", "best", "laws", "law", "ask", "leaves", "places", "place", "farther", "set":
                return random.nextInt(4);
            case "image", "back", "fault":
                return random.nextInt(3);
            case "sign", "post":
                return random.nextInt(9);
            case "when":
                return random.nextInt(12);
            default:
                return step;
        }
    }

    private void tell() {
        String text = stationText();
        if (random.nextInt(4) == 0) {
            text = spoil(text);
        }
        text = text.substring(0, Math.min(480, text.length()));
        named("end", 0);
        for (int from = 0; from < text.length(); from += 20) {
            named("feed", Check.four(text, from), Check.four(text, from + 4), Check.four(text, from + 8),
                    Check.four(text, from + 12), Check.four(text, from + 16));
        }
        named("end", text.length());
        named("station");
        named("fault", 0);
        named("fault", 1);
    }

    private String blank() {
        int dice = random.nextInt(8);
        return dice == 0 ? "\n" : dice == 1 ? "  " : " ";
    }

    private String stationText() {
        StringBuilder text = new StringBuilder();
        int tones = 2 + random.nextInt(random.nextInt(3) == 0 ? 8 : 4);
        text.append("station").append(blank()).append("tones ").append(tones);
        for (String name : new String[] {"a", "b", "c", "d"}) {
            text.append(blank()).append(name).append(blank()).append(random.nextInt(4) == 0 ? 0 : random.nextInt(tones));
        }
        text.append(" odds ").append(random.nextInt(11)).append(";");
        int signs = random.nextInt(10) == 0 ? 0 : 1 + random.nextInt(8);
        int posts = random.nextInt(6);
        while (signs + posts > 0) {
            if (random.nextInt(signs + posts) < posts) {
                posts--;
                text.append("post at ").append(random.nextInt(100)).append(random.nextInt(4) == 0 ? " ;" : ";");
            } else {
                signs--;
                text.append(random.nextBoolean() ? "gap;" : "note " + random.nextInt(tones) + ";");
            }
            text.append(random.nextInt(4) == 0 ? blank() : "");
        }
        return text.toString();
    }

    private String spoil(String text) {
        String[] bits = {"", " ", ";", "gap;", "note 1;", "post at 5;", "9", "x", "0", "\t", "station", "note", "note 12;",
            "" + (char) 0, "" + (char) 233, "gap;gap;gap;gap;", "at", "99999999999"};
        int at = random.nextInt(text.length());
        int gone = Math.min(text.length() - at, random.nextInt(3));
        String bit = bits[random.nextInt(bits.length)];
        return random.nextInt(4) == 0 ? text + bit : text.substring(0, at) + bit + text.substring(at + gone);
    }

    /** What was heard by some law, so that some laws fit. */
    private void fillLawRow() {
        int slot = random.nextInt(4);
        int pairs = random.nextInt(5);
        named("row", slot, random.nextInt(4), 2 * pairs + (random.nextInt(10) == 0 ? 1 : 0));
        for (int k = 0; k < pairs; k++) {
            int step = random.nextInt(random.nextBoolean() ? 61 : 10);
            int tone = random.nextInt(6) == 0 ? random.nextInt(9) : Math.max(0, program.far(step));
            write(slot, 2 * k, step);
            write(slot, 2 * k + 1, tone);
        }
        for (String name : new String[] {"laws", "law", "ask", "leaves"}) {
            if (random.nextInt(3) == 0) {
                named(name, slot);
            }
        }
    }

    /** Minutes as they are from some place. */
    private void fillPlaceRow() {
        int slot = random.nextInt(4);
        int pairs = random.nextInt(4);
        int posts = program.count(7);
        int place = random.nextInt(100);
        int sent = random.nextInt(random.nextBoolean() ? 930 : 20);
        named("row", slot, random.nextInt(4), 2 * pairs + (random.nextInt(10) == 0 ? 1 : 0));
        for (int k = 0; k < pairs; k++) {
            int post = random.nextInt(posts + (random.nextInt(12) == 0 || posts == 0 ? 1 : 0));
            int minute = sent + Math.abs(place - Math.max(0, program.post(post))) + (random.nextInt(12) == 0 ? 1 : 0);
            write(slot, 2 * k, post);
            write(slot, 2 * k + 1, minute);
        }
        for (String name : new String[] {"places", "place", "farther", "set"}) {
            if (random.nextInt(2) == 0) {
                named(name, slot);
            }
        }
    }

    private void write(int slot, int i, long v) {
        for (Method m : METHODS) {
            if (m.getName().equals("write")) {
                call(m, slot, i, v);
            }
        }
    }

    private void named(String name, int... numbers) {
        Object[] args = new Object[numbers.length];
        for (int i = 0; i < numbers.length; i++) {
            args[i] = numbers[i];
        }
        for (Method m : METHODS) {
            if (m.getName().equals(name)) {
                call(m, args);
            }
        }
    }

    private void call(Method m, Object... args) {
        if (!same || made >= CALLS) {
            return;
        }
        made++;
        String told = m.getName() + Arrays.toString(args);
        calls.add(told);
        long got;
        long want;
        try {
            got = ((Number) m.invoke(program, args)).longValue();
            Method due = Oracle.class.getDeclaredMethod(m.getName(), m.getParameterTypes());
            want = ((Number) due.invoke(oracle, args)).longValue();
        } catch (InvocationTargetException e) {
            throw new IllegalStateException(told + " threw after " + calls, e.getCause());
        } catch (ReflectiveOperationException e) {
            throw new IllegalStateException(e);
        }
        check.due(told + " as call " + made, got, want);
        same = got == want;
        if (!same) {
            System.out.println("calls: " + calls);
        }
    }
}
