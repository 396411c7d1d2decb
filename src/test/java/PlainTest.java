import java.lang.reflect.InvocationTargetException;
import java.lang.reflect.Method;
import java.util.ArrayList;
import java.util.Arrays;
import java.util.List;
import java.util.Random;

/** Runs of calls made up by a seed, on the class and on PlainDesk at once: every answer must be the same. */
public final class PlainTest {
    private static final String[] CALLS = {"bad", "badAt", "state", "arc", "gate", "at", "points", "required",
        "requiredCube", "falls", "safe", "primes", "prime", "needed", "lacking", "fewest", "chosen", "literals",
        "formula", "sign", "harm", "glitch", "run", "runBurst", "settles", "settled", "push", "walk", "shown",
        "codings", "coding", "recode", "strike", "add", "undo", "last", "size", "fault", "where", "push", "push",
        "machine", "settles", "harm", "undo", "fewest", "chosen", "walk"};

    /** For rounds in which more ACTS come than are kept. */
    private static final String[] ACTS = {"recode", "add", "strike", "recode", "add", "strike", "undo", "state", "arc",
        "gate", "size", "bad"};

    private final Random random;
    private final Machines machines;
    private final List<String> log = new ArrayList<>();
    private BurstDesk desk;
    private PlainDesk plain;
    private int calls;

    private PlainTest(long seed) {
        random = new Random(seed);
        machines = new Machines(seed);
    }

    public static void main(String[] args) {
        int runs = args.length > 0 ? Integer.parseInt(args[0]) : 600;
        long first = args.length > 1 ? Long.parseLong(args[1]) : 1;
        int wrong = 0;
        long calls = 0;
        for (long seed = first; seed < first + runs && wrong < 5; seed++) {
            PlainTest test = new PlainTest(seed);
            if (!test.oneRun()) {
                wrong++;
                System.out.println("seed " + seed + ":");
                test.log.forEach(System.out::println);
            }
            calls += test.calls;
        }
        System.out.println(runs + " runs, " + calls + " calls, " + wrong + " runs not alike");
        if (wrong != 0) {
            System.exit(1);
        }
    }

    private boolean oneRun() {
        desk = new BurstDesk();
        plain = new PlainDesk();
        boolean alike = true;
        int rounds = 1 + random.nextInt(3);
        for (int round = 0; round < rounds && alike; round++) {
            alike = newMachine();
            int more = 20 + random.nextInt(100);
            boolean busy = random.nextInt(4) == 0;
            for (int i = 0; i < more && alike; i++) {
                boolean act = busy && random.nextInt(5) != 0;
                alike = oneCall(act ? ACTS[random.nextInt(ACTS.length)] : CALLS[random.nextInt(CALLS.length)]);
            }
            for (int i = 0; i < 14 && busy && alike; i++) {
                alike = oneCall("undo") && sameParts();
            }
        }
        return alike;
    }

    private boolean sameParts() {
        boolean alike = true;
        for (int i = 0; i < 6 && alike; i++) {
            alike = same("state " + i, desk.state(i, 0), plain.state(i, 0));
        }
        for (int i = 0; i < 8 && alike; i++) {
            for (int what = 0; what < 7 && alike; what++) {
                alike = same("arc " + i + " " + what, desk.arc(i, what), plain.arc(i, what));
            }
        }
        return alike && same("gates", desk.size(2), plain.size(2));
    }

    private boolean newMachine() {
        String text = machines.text(random.nextInt(4) != 0);
        if (random.nextInt(3) == 0) {
            text = spoiled(text);
        }
        if (text.length() > 600) {
            text = text.substring(0, 600);
        }
        log.add("text " + text.replace('\n', '~'));
        boolean alike = true;
        for (int at = 0; at < text.length() && alike; at += 20) {
            int[] numbers = new int[5];
            for (int i = 0; i < 20; i++) {
                int sign = at + i < text.length() ? text.charAt(at + i) & 255 : ' ';
                numbers[i / 4] = numbers[i / 4] << 8 | sign;
            }
            alike = same("feed" + Arrays.toString(numbers),
                    desk.feed(numbers[0], numbers[1], numbers[2], numbers[3], numbers[4]), plain.feed(numbers));
        }
        int n = text.length();
        alike = alike && same("machine " + n, desk.machine(n), plain.machine(n));
        alike = alike && same("trouble", desk.trouble(), plain.trouble());
        alike = alike && same("where", desk.where(), plain.where());
        alike = alike && same("fault", desk.fault(), plain.fault());
        alike = alike && same("bad", desk.bad(), plain.bad());
        if (alike && (plain.bad() >= 5 || random.nextBoolean())) {
            alike = goodCodes();
        }
        return alike;
    }

    private boolean goodCodes() {
        boolean alike = true;
        for (int s = 0; s < plain.size(0) && alike; s++) {
            int code = plain.coding(4, s);
            alike = same("coding 4 " + s, desk.coding(4, s), code)
                    && same("recode " + s + " " + code, desk.recode(s, code), plain.recode(s, code));
        }
        return alike;
    }

    private String spoiled(String text) {
        StringBuilder other = new StringBuilder(text);
        int times = 1 + random.nextInt(2);
        String signs = "abcdpqrst0123456789;;//++--''    zx\u00ff\n";
        for (int i = 0; i < times && other.length() > 0; i++) {
            int at = random.nextInt(other.length());
            char sign = signs.charAt(random.nextInt(signs.length()));
            switch (random.nextInt(5)) {
                case 0:
                    other.deleteCharAt(at);
                    break;
                case 1:
                    other.insert(at, sign);
                    break;
                case 2:
                    other.setLength(at);
                    break;
                case 3:
                    String[] lines = text.split(";");
                    other.append(';').append(lines[random.nextInt(lines.length)]);
                    break;
                default:
                    other.setCharAt(at, sign);
                    break;
            }
        }
        return other.toString();
    }

    private boolean oneCall(String name) {
        for (Method method : BurstDesk.class.getDeclaredMethods()) {
            if (method.getName().equals(name) && java.lang.reflect.Modifier.isPublic(method.getModifiers())) {
                Class<?>[] types = method.getParameterTypes();
                Object[] arguments = new Object[types.length];
                for (int i = 0; i < types.length; i++) {
                    arguments[i] = types[i] == boolean.class ? (Object) random.nextBoolean() : (Object) number(name, i);
                }
                try {
                    Object got = answer(method, desk, arguments);
                    Method other = PlainDesk.class.getDeclaredMethod(name, types);
                    Object due = answer(other, plain, arguments);
                    calls++;
                    String told = name + Arrays.toString(arguments);
                    return same(told, got, due) && same("trouble", desk.trouble(), plain.trouble());
                } catch (ReflectiveOperationException e) {
                    throw new IllegalStateException(e);
                }
            }
        }
        throw new IllegalStateException(name);
    }

    private static Object answer(Method method, Object on, Object[] arguments) throws ReflectiveOperationException {
        try {
            method.setAccessible(true);
            return method.invoke(on, arguments);
        } catch (InvocationTargetException e) {
            return e.getCause().getClass().getName();
        }
    }

    private int number(String name, int i) {
        boolean cube = i == 1 && (name.equals("safe") || name.equals("run") || name.equals("add"));
        if (random.nextInt(60) == 0) {
            int[] odd = {-1, Integer.MIN_VALUE, Integer.MAX_VALUE, 729, 64, -2};
            return odd[random.nextInt(odd.length)];
        }
        if (cube) {
            int known = random.nextInt(3);
            if (known == 0 && plain.primes(0) > 0) {
                int f = random.nextInt(5);
                return plain.prime(f, random.nextInt(Math.max(1, plain.primes(f))));
            }
            return random.nextInt(40) == 0 ? 729 : random.nextInt(729);
        }
        if (name.equals("at") && i == 1) {
            return random.nextInt(65);
        }
        if (name.equals("sign") && i == 1) {
            return random.nextInt(20);
        }
        if (name.equals("machine")) {
            return random.nextInt(4) == 0 ? 0 : 1 + random.nextInt(600);
        }
        if (name.equals("strike") && random.nextInt(3) != 0) {
            return 9;
        }
        int bound = name.equals("push") ? 4 : name.equals("codings") || name.equals("coding") && i == 0 ? 6 : 7;
        return random.nextInt(bound);
    }

    /** Both desks are asked the same, so that TROUBLE stays the same too. */
    private boolean same(String call, Object got, Object due) {
        log.add(call + " -> " + got + (got.equals(due) ? "" : ", due is " + due));
        return got.equals(due);
    }
}
