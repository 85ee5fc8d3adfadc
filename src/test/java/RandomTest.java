import java.lang.reflect.InvocationTargetException;
import java.lang.reflect.Method;
import java.util.ArrayList;
import java.util.Arrays;
import java.util.Comparator;
import java.util.List;
import java.util.Random;

/** Runs of calls by draws from fixed seeds: the class and the Model are asked the same, and answer alike. */
public final class RandomTest {
    private static final int CALLS = 500;
    private static final int[] EDGES = {-1, -2, 0, 1, 2, 3, 4, 5, 6, 7, 8, 9, 10, 15, 16, 20, 30, 60, 61, 99, 100, 160,
        161, 239, 240, 241, 999, 1000, 9999, 10000, Integer.MAX_VALUE, Integer.MIN_VALUE};
    private static final String[] ITEMS = {"shop", "child", "feathers", "keeps", "ink", "tree", "do", "do", "night"};

    private final Random random;
    private final PaidInLeaves x = new PaidInLeaves();
    private final Model model = new Model();
    private final StringBuilder story = new StringBuilder();

    private RandomTest(long seed) {
        random = new Random(seed);
    }

    public static void main(String[] args) throws ReflectiveOperationException {
        int runs = args.length > 0 ? Integer.parseInt(args[0]) : 400;
        for (int seed = 0; seed < runs; seed++) {
            if (!new RandomTest(seed).run()) {
                System.out.println("in run " + seed);
                break;
            }
        }
        Due.end();
    }

    private boolean run() throws ReflectiveOperationException {
        List<Method> methods = new ArrayList<>();
        for (Method m : PaidInLeaves.class.getDeclaredMethods()) {
            if (java.lang.reflect.Modifier.isPublic(m.getModifiers())) {
                methods.add(m);
            }
        }
        methods.sort(Comparator.comparing(Method::getName));
        int shops = random.nextInt(7);
        int children = random.nextInt(7);
        for (int i = 0; i < Math.max(shops, children); i++) {
            if (i < shops && !call("shop", random.nextInt(7), random.nextInt(10), 1 + random.nextInt(random.nextBoolean() ? 30 : 999))) {
                return false;
            }
            if (i < children && !call("child", 1 + random.nextInt(random.nextBoolean() ? 12 : 99), random.nextInt(random.nextBoolean() ? 99 : 9999))) {
                return false;
            }
        }
        for (int i = 0; i < CALLS / 2; i++) {
            if (!step(methods)) {
                return false;
            }
        }
        return true;
    }

    private boolean step(List<Method> methods) throws ReflectiveOperationException {
        int draw = random.nextInt(12);
        if (draw == 0) {
            return text();
        }
        if (draw == 1) {
            return afternoon();
        }
        Method m = methods.get(random.nextInt(methods.size()));
        if (m.getName().equals("keepers") && random.nextInt(8) != 0) {
            return true;
        }
        return call(m);
    }

    private int number() {
        switch (random.nextInt(8)) {
            case 0: return EDGES[random.nextInt(EDGES.length)];
            case 1: return random.nextInt(241);
            case 2: return random.nextInt();
            case 3: return 10 + random.nextInt(6);
            default: return random.nextInt(7);
        }
    }

    private boolean text() throws ReflectiveOperationException {
        StringBuilder text = new StringBuilder();
        int items = 1 + random.nextInt(5);
        for (int i = 0; i < items; i++) {
            String word = ITEMS[random.nextInt(ITEMS.length)];
            text.append(i == 0 ? "" : ";").append(word);
            int numbers = word.equals("night") ? 0 : word.equals("shop") ? 3 : word.equals("ink") || word.equals("tree") ? 1 : 2;
            for (int k = 0; k < numbers; k++) {
                text.append(' ').append(random.nextInt(9) == 0 ? "0" : "").append(textNumber(k));
            }
        }
        if (random.nextInt(3) == 0) {
            text.setLength(random.nextInt(text.length() + 1));
        }
        if (random.nextInt(3) == 0 && text.length() > 0) {
            text.setCharAt(random.nextInt(text.length()), " ;0123456789shopchildfeathersnight".charAt(random.nextInt(33)));
        }
        text.setLength(Math.min(160, text.length()));
        int shelf = random.nextInt(8);
        int sort = random.nextInt(4);
        boolean alike = call("row", shelf, sort, text.length());
        for (int i = 0; i < text.length() && alike; i++) {
            alike = call("set", shelf, i, (long) text.charAt(i));
        }
        return alike && call("garden", shelf) && prefix(shelf, sort, text) && call("fault");
    }

    /** What stands ahead of a fault goes on: it is whole, or its own fault is its end. */
    private boolean prefix(int shelf, int sort, CharSequence text) throws ReflectiveOperationException {
        int fault = x.fault();
        if (fault == PaidInLeaves.NONE || random.nextBoolean()) {
            return true;
        }
        boolean alike = call("row", shelf, sort, fault);
        for (int i = 0; i < fault && alike; i++) {
            alike = call("set", shelf, i, (long) text.charAt(i));
        }
        alike = alike && call("garden", shelf);
        Due.due("the fault ahead of " + fault + " in " + text + " is it or none", x.fault() == fault || x.fault() == PaidInLeaves.NONE ? 1 : 0, 1);
        return alike;
    }

    private int textNumber(int k) {
        switch (random.nextInt(6)) {
            case 0: return random.nextInt(20000);
            case 1: return 10 + random.nextInt(7);
            case 2: return random.nextInt(120);
            default: return random.nextInt(k == 0 ? 4 : 10);
        }
    }

    private boolean afternoon() throws ReflectiveOperationException {
        int children = x.status(1);
        int n = Math.min(160, random.nextInt(5) * children + random.nextInt(3));
        int shelf = random.nextInt(8);
        boolean alike = call("row", shelf, random.nextInt(4), n);
        for (int i = 0; i < n && alike; i++) {
            int may = children > 0 ? x.may(i % children) : 1;
            int deed = random.nextInt(30) == 0 ? number() : 31 - Integer.numberOfLeadingZeros(may & random.nextInt(0x10000) | 1);
            alike = call("set", shelf, i, (long) deed);
        }
        return alike && call("judge", shelf, n) && call("told", shelf, n, 0) && call("told", shelf, n, 10)
            && (random.nextBoolean() || call("done", shelf, n));
    }

    private boolean call(Method m) throws ReflectiveOperationException {
        Object[] with = new Object[m.getParameterCount()];
        for (int i = 0; i < with.length; i++) {
            if (m.getParameterTypes()[i] == long.class) {
                with[i] = random.nextInt(4) == 0 ? random.nextLong() : (long) number();
            } else {
                with[i] = number();
            }
        }
        return call(m.getName(), with);
    }

    private boolean call(String name, Object... with) throws ReflectiveOperationException {
        Class<?>[] types = new Class<?>[with.length];
        for (int i = 0; i < with.length; i++) {
            types[i] = with[i] instanceof Long ? long.class : int.class;
        }
        String told = name + Arrays.toString(with);
        long got = ((Number) PaidInLeaves.class.getMethod(name, types).invoke(x, with)).longValue();
        long want;
        try {
            want = ((Number) Model.class.getMethod(name, types).invoke(model, with)).longValue();
        } catch (InvocationTargetException e) {
            if (!(e.getCause() instanceof Model.Refusal)) {
                throw e;
            }
            want = ((Model.Refusal) e.getCause()).answer;
        }
        story.append(told).append(" = ").append(got).append('\n');
        Due.due(told, got, want);
        if (got != want) {
            System.out.println(story);
        }
        return got == want && alikeInside();
    }

    private boolean alikeInside() {
        for (int what = 0; what < 18; what++) {
            if (x.status(what) != model.status(what)) {
                Due.due("status(" + what + ")", x.status(what), model.status(what));
                System.out.println(story);
                return false;
            }
        }
        return true;
    }
}
