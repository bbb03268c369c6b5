import java.lang.reflect.Method;
import java.util.ArrayList;
import java.util.Arrays;
import java.util.Comparator;
import java.util.List;

/** Runs of calls on SoManyStairs and on the Model, which have to answer alike. */
public final class ModelTest {
    private static final Method[] FACE = face();
    private static int wrong = 0;
    private static int calls = 0;

    private static Method[] face() {
        Method[] all = SoManyStairs.class.getDeclaredMethods();
        List<Method> face = new ArrayList<>();
        for (Method m : all) {
            if (java.lang.reflect.Modifier.isPublic(m.getModifiers())) {
                face.add(m);
            }
        }
        face.sort(Comparator.comparing(Method::getName));
        return face.toArray(new Method[0]);
    }

    // What some runs call most: many ACTS, riches, CHALK over long times.
    private static final String[][] FAVOURITES = {
        {},
        {"climb", "climb", "climb", "climb", "week", "week", "give", "undo", "redo", "image"},
        {"climb", "climb", "climb", "climb", "climb", "week", "give", "give", "gifts", "settle", "fewest"},
        {"chalk", "tread", "untell", "later", "later", "runs", "who", "ask"},
        {"about"},
    };

    private final SoManyStairs stairs = new SoManyStairs();
    private final Model model = new Model();
    private final Draws draws;
    private final List<String> log = new ArrayList<>();
    private int left = 512;
    private boolean same = true;

    private ModelTest(long seed) {
        draws = new Draws(seed);
    }

    public static void main(String[] args) throws Exception {
        int from = args.length > 0 ? Integer.parseInt(args[0]) : 0;
        int rounds = args.length > 1 ? Integer.parseInt(args[1]) : 2000;
        if (FACE.length != 49) {
            System.out.println("the face has " + FACE.length + " methods");
            wrong++;
        }
        for (int seed = from; seed < from + rounds && wrong < 5; seed++) {
            new ModelTest(seed).run();
        }
        System.out.println("ModelTest: " + calls + " calls compared, " + wrong + " wrong");
        if (wrong != 0) {
            System.exit(1);
        }
    }

    private void run() throws Exception {
        int profile = draws.below(5);
        Texts texts = new Texts(draws, profile == 2);
        int houses = profile == 4 ? 30 : draws.from(1, 3);
        for (int i = 0; i < houses && same; i++) {
            if (profile == 4 || draws.oneIn(3)) {
                tell(texts.broken(texts.house()));
            }
            if (profile != 4 || draws.oneIn(4)) {
                tell(texts.house());
            }
            int part = profile == 4 ? Math.max(0, left - 2) : profile == 0 || houses > 1 ? left / 2 : 0;
            while (left > part && same) {
                Method m = FACE[draws.below(FACE.length)];
                if (profile != 0 && !draws.oneIn(3)) {
                    m = method(FAVOURITES[profile][draws.below(FAVOURITES[profile].length)]);
                }
                // These try everything in the Model, so they come more seldom.
                if (Arrays.asList("fewest", "care", "proxy", "toil").contains(m.getName()) && !draws.oneIn(6)) {
                    m = method(draws.of("climb", "climb", "week", "give"));
                }
                if (Arrays.asList("house", "feed", "end").contains(m.getName()) && !draws.oneIn(40)) {
                    m = method(draws.of("climb", "climb", "undo", "redo", "chalk", "tread", "untell"));
                }
                ask(m, arguments(m.getName()));
            }
        }
    }

    private static Method method(String name) {
        for (Method m : FACE) {
            if (m.getName().equals(name)) {
                return m;
            }
        }
        throw new IllegalArgumentException(name);
    }

    private void tell(String text) throws Exception {
        int at = 0;
        ask(method("end"), 0);
        for (; at < text.length(); at += 20) {
            Object[] five = new Object[5];
            for (int i = 0; i < 5; i++) {
                int number = 0;
                for (int k = 0; k < 4; k++) {
                    int place = at + 4 * i + k;
                    number = number << 8 | (place < text.length() ? text.charAt(place) & 255 : 0);
                }
                five[i] = number;
            }
            ask(method("feed"), five);
        }
        ask(method("end"), text.length());
        log.add("text " + text);
        ask(method("house"));
        ask(method("fault"), 0);
        ask(method("fault"), 1);
    }

    private void ask(Method m, Object... arguments) throws Exception {
        if (!same || left == 0) {
            return;
        }
        left--;
        calls++;
        Method twin = Model.class.getDeclaredMethod(m.getName(), m.getParameterTypes());
        Object got = m.invoke(stairs, arguments);
        Object due = twin.invoke(model, arguments);
        log.add(m.getName() + Arrays.toString(arguments) + " = " + got);
        compare(got, due);
        for (int i = 0; same && i <= 12; i++) {
            compare(stairs.about(i), model.about(i));
        }
        for (int i = -1; same && i <= stairs.about(12); i++) {
            compare(stairs.lies(i), model.lies(i));
        }
        for (int t = 0; same && t < stairs.about(0); t++) {
            for (int what = 5; what <= 7; what++) {
                compare(stairs.tenant(t, what), model.tenant(t, what));
            }
        }
    }

    private void compare(Object got, Object due) {
        if (!got.equals(due)) {
            same = false;
            wrong++;
            log.forEach(System.out::println);
            System.out.println("    got " + got + ", due is " + due);
        }
    }

    private int tenant() {
        int n = stairs.about(0);
        return draws.oneIn(12) ? draws.of(-1, n, -2, 8, 99) : draws.below(Math.max(1, n));
    }

    private int storeys() {
        int all = stairs.about(1);
        return draws.oneIn(12) ? draws.of(0, -1, all + 1, 99) : draws.from(1, all);
    }

    private int what(int most) {
        return draws.oneIn(12) ? draws.of(-1, most + 1) : draws.below(most + 1);
    }

    private int known() {
        return draws.oneIn(8) ? draws.of(-1, Integer.MIN_VALUE, Integer.MAX_VALUE)
                : draws.below(2) * draws.below(stairs.about(9) + 2) + draws.below(2) * stairs.about(9);
    }

    private Object[] arguments(String name) {
        switch (name) {
            case "feed":
                return new Object[] {draws.below(1 << 30), -draws.below(1 << 30), 0, 1, draws.below(1 << 30)};
            case "end":
                return new Object[] {what(stairs.about(10))};
            case "fault":
                return new Object[] {what(1)};
            case "tenant":
                return new Object[] {tenant(), what(8)};
            case "worth":
                return new Object[] {tenant(), storeys(), carried(), what(1), what(1)};
            case "climb":
                int climber = tenant();
                int most = Math.min(stairs.about(1), stairs.tenant(climber, 5));
                int by = most > 0 && !draws.oneIn(4) ? draws.from(1, most) : storeys();
                return new Object[] {climber, by, carried(), what(1)};
            case "give":
                int giver = tenant();
                int has = Math.max(0, stairs.tenant(giver, 6));
                return new Object[] {giver, tenant(), draws.oneIn(5) ? draws.of(0, -1, has + 1, has) : draws.below(has + 1)};
            case "fewest", "envies", "month", "ladder":
                return new Object[] {tenant()};
            case "carries":
                return new Object[] {tenant(), tenant()};
            case "gifts", "calm":
                return new Object[] {what(2)};
            case "will", "ruin":
                return new Object[] {what(60)};
            case "odds":
                return new Object[] {tenant(), what(4), what(4), what(1)};
            case "law":
                return new Object[] {draws.oneIn(12) ? draws.of(-1000, 1000, -999, 999) : draws.from(-200, 200)};
            case "stride":
                return new Object[] {tenant(), what(1)};
            case "settle":
                return new Object[] {tenant(), storeys()};
            case "hover":
                return new Object[] {draws.oneIn(8) ? draws.of(-1, 1000, 999) : draws.below(100)};
            case "team":
                return new Object[] {draws.oneIn(8) ? draws.of(-1, 401, 400) : draws.below(80), what(1)};
            case "live":
                return new Object[] {draws.from(-1, stairs.about(1) + 1)};
            case "lies":
                return new Object[] {draws.from(-1, 8)};
            case "chalk":
                return new Object[] {draws.from(-1, stairs.about(1) + 1), draws.oneIn(3)};
            case "tread":
                return new Object[] {draws.oneIn(9) ? draws.of(-1, 10) : draws.below(7), !draws.oneIn(4)};
            case "untell":
                return new Object[] {what(Math.max(0, stairs.about(8)))};
            case "later":
                return new Object[] {draws.oneIn(12) ? draws.of(-1, 1001, 1000) : draws.oneIn(2) ? draws.from(900, 1000) : draws.below(10)};
            case "runs", "who":
                return new Object[] {known()};
            case "ask":
                return new Object[] {what(1), known()};
            case "image", "back":
                return new Object[] {what(2)};
            case "about":
                return new Object[] {what(12)};
            default:
                return new Object[0];
        }
    }

    private int carried() {
        return draws.oneIn(3) ? tenant() : -1;
    }
}
