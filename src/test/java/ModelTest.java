import java.lang.reflect.InvocationTargetException;
import java.lang.reflect.Method;
import java.util.Arrays;
import java.util.Random;

/** Long runs of calls, always the same ones, on the class and on the model, each of whose answers must be the same. */
public final class ModelTest {
    private static final int RUNS = 600;
    private static final int CALLS = 500;
    private static final Method[] ACTS = acts();

    private final Random random;
    private final CoinFountain x = new CoinFountain();
    private final Model model = new Model();
    private int calls = 0;

    private ModelTest(long seed) {
        random = new Random(seed);
    }

    public static void main(String[] args) throws IllegalAccessException {
        int runs = args.length > 0 ? Integer.parseInt(args[0]) : RUNS;
        for (int run = 0; run < runs; run++) {
            if (!new ModelTest(run).goes(run)) {
                break;
            }
        }
        Due.end();
    }

    private static Method[] acts() {
        Method[] all = Arrays.stream(CoinFountain.class.getDeclaredMethods())
            .filter(m -> java.lang.reflect.Modifier.isPublic(m.getModifiers())).toArray(Method[]::new);
        Arrays.sort(all, (a, b) -> a.getName().compareTo(b.getName()));
        return all;
    }

    private boolean goes(int run) throws IllegalAccessException {
        // Some runs are full of hours, so that the last hour is reached.
        boolean late = run % 10 == 9;
        boolean good = true;
        while (good && calls < CALLS) {
            if (late && random.nextInt(6) == 0) {
                good = same(run, "hours", 200);
            } else if (random.nextInt(12) == 0) {
                good = text(run);
            } else if (model.w.row().size() < 4 && random.nextInt(3) == 0) {
                good = same(run, "person", random.nextInt(6));
            } else {
                good = any(run);
            }
        }
        return good;
    }

    private boolean any(int run) throws IllegalAccessException {
        Method m = ACTS[random.nextInt(ACTS.length)];
        String name = m.getName();
        boolean isRare = name.equals("leave") || name.equals("undo") || name.equals("wipe") || name.equals("hours");
        if (isRare && random.nextInt(3) != 0) {
            return true;
        }
        long[] a = new long[m.getParameterCount()];
        for (int i = 0; i < a.length; i++) {
            a[i] = argument(name, i, a);
            if (m.getParameterTypes()[i] == boolean.class) {
                a[i] = random.nextInt(3) == 0 ? 0 : 1;
            } else if (m.getParameterTypes()[i] == int.class) {
                a[i] = (int) a[i];
            }
        }
        return same(run, name, a);
    }

    private long up(int most) {
        int r = random.nextInt(40);
        if (r == 0) {
            return most + 1L;
        }
        if (r == 1) {
            return -1;
        }
        if (r == 2) {
            long[] far = {Integer.MIN_VALUE, Integer.MAX_VALUE, 1L << 32, -2, Long.MIN_VALUE, Long.MAX_VALUE, 1L << 31};
            return far[random.nextInt(far.length)];
        }
        if (r == 3) {
            return most;
        }
        return random.nextInt(most + 1);
    }

    private long small(int most) {
        return random.nextBoolean() ? up(most) : random.nextInt(Math.min(most, 12) + 1);
    }

    private long place() {
        return up(Math.max(0, model.w.row().size() - 1));
    }

    private long argument(String name, int i, long[] a) {
        switch (name) {
            case "person": return up(5);
            case "of": return i == 0 ? place() : up(9);
            case "set": return i == 0 ? place() : i == 1 ? 1 + up(2) : small(a[1] == 1 ? 999 : 99);
            case "turn": case "as": return i == 0 ? place() : up(5);
            case "coins": return small(999);
            case "law": return up(2);
            case "diver": return up(40) - 20;
            case "hours": return 1 + (random.nextInt(4) == 0 ? up(199) : up(3));
            case "now": return up(8);
            case "on": return i == 0 ? place() : up(200);
            case "gainIf": return i == 0 ? place() : small(99);
            case "feed": return i == 0 ? random.nextInt() : 1 + up(3);
            case "count": return up(3);
            case "status": return up(7) - 1;
            case "sheet": return i == 0 ? up(3) : i == 1 ? new int[] {8, 16, 64, 0, 8, 16, 64, 9}[random.nextInt(8)] : up(40);
            case "write": return i == 0 ? up(3) : i == 1 ? small(39) : random.nextInt(4) == 0 ? random.nextLong() : up(1);
            case "copy": return i % 2 == 0 && i < 4 ? up(3) : up(i == 4 ? 10 : 20);
            case "lays": case "book": return up(3);
            case "read": return i == 0 ? up(3) : small(99);
            default: return place();
        }
    }

    private String number(int most) {
        long v = random.nextInt(15) == 0 ? most + 1L : random.nextInt(8) == 0 ? most : random.nextInt(Math.max(1, most + 1));
        return random.nextInt(20) == 0 ? "00" + v : Long.toString(v);
    }

    private String item() {
        switch (random.nextInt(9)) {
            case 0: return "coins " + number(random.nextBoolean() ? 9 : 999);
            case 1: return "law " + number(2);
            case 2: return "diver";
            case 3: return "diver lie " + (random.nextBoolean() ? "-" : "") + number(20);
            case 4: return "silent";
            case 5: case 6: return "swap " + number(model.w.row().size()) + " " + number(model.w.row().size() - 1);
            default:
                return Model.NAMES[random.nextInt(6)] + (random.nextBoolean() ? " purse " + number(999) : "")
                    + (random.nextBoolean() ? " value " + number(99) : "") + (random.nextBoolean() ? " guess " + number(99) : "");
        }
    }

    private boolean text(int run) throws IllegalAccessException {
        StringBuilder text = new StringBuilder(item());
        int more = random.nextInt(4);
        for (int i = 0; i < more; i++) {
            text.append(random.nextInt(20) == 0 ? " " : ";").append(item());
        }
        if (random.nextInt(4) == 0) {
            int at = random.nextInt(text.length());
            text.setCharAt(at, "; -a?5z\u00e9\tA".charAt(random.nextInt(10)));
        }
        if (random.nextInt(4) == 0) {
            text.setLength(random.nextInt(text.length() + 1));
        }
        boolean good = random.nextInt(5) == 0 || same(run, "wipe");
        for (int i = 0; good && i < text.length(); i += 4) {
            int n = Math.min(4, text.length() - i);
            int bytes = random.nextInt();
            for (int j = 0; j < n; j++) {
                bytes = bytes << 8 | text.charAt(i + j);
            }
            good = same(run, "feed", bytes, n);
        }
        return good && same(run, "square");
    }

    private boolean same(int run, String name, long... a) throws IllegalAccessException {
        calls++;
        long due = model.call(name, a);
        long got = ask(name, a);
        Due.is("run " + run + ", call " + calls + ": " + name + Arrays.toString(a), got, due);
        return got == due;
    }

    private long ask(String name, long[] a) throws IllegalAccessException {
        for (Method m : ACTS) {
            if (m.getName().equals(name)) {
                Object[] given = new Object[a.length];
                for (int i = 0; i < a.length; i++) {
                    Class<?> type = m.getParameterTypes()[i];
                    given[i] = type == long.class ? (Object) a[i] : type == boolean.class ? (Object) (a[i] != 0) : (Object) (int) a[i];
                }
                try {
                    return ((Number) m.invoke(x, given)).longValue();
                } catch (InvocationTargetException thrown) {
                    System.out.println(name + Arrays.toString(a) + " threw " + thrown.getCause());
                    return Long.MIN_VALUE + 1;
                }
            }
        }
        throw new IllegalArgumentException(name);
    }
}
