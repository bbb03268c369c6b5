/** What the tests of the promises share: counting answers that are not due, telling texts, keeping states. */
final class Check {
    /** Numbers that are never a tenant, a storey, a box, a mark or a "what". */
    static final int[] NEVER = {Integer.MIN_VALUE, Integer.MIN_VALUE + 1, -65536, -256, -32, -2, 32, 64, 256, 65536,
        Integer.MAX_VALUE - 1, Integer.MAX_VALUE};

    private static int right = 0;
    private static int wrong = 0;

    private Check() {
    }

    static void same(String what, long got, long due) {
        if (got == due) {
            right++;
        } else {
            wrong++;
            System.out.println(what + " answered " + got + ", due is " + due);
        }
    }

    static void is(String what, boolean got) {
        same(what, got ? 1 : 0, 1);
    }

    static void isNot(String what, boolean got) {
        same(what, got ? 1 : 0, 0);
    }

    static int right() {
        return right;
    }

    static int wrong() {
        return wrong;
    }

    /** That which lies there, and nothing more. */
    static void lies(String what, SoManyStairs x, int... due) {
        same(what + ": how many lie", x.about(12), due.length);
        for (int i = 0; i < due.length; i++) {
            same(what + ": lies(" + i + ")", x.lies(i), due[i]);
        }
        same(what + ": lies behind all", x.lies(due.length), -2);
    }

    static void fault(String text, int which, int place) {
        SoManyStairs x = new SoManyStairs();
        feed(x, text);
        same("house() of " + text, x.house(), SoManyStairs.NONE);
        same("fault(0) of " + text, x.fault(0), which);
        same("fault(1) of " + text, x.fault(1), place);
    }

    static void good(String text, int tenants) {
        SoManyStairs x = new SoManyStairs();
        feed(x, text);
        same("house() of " + text, x.house(), tenants);
        same("fault(0) of " + text, x.fault(0), 0);
        same("fault(1) of " + text, x.fault(1), SoManyStairs.NONE);
    }

    static SoManyStairs told(String text) {
        SoManyStairs x = new SoManyStairs();
        feed(x, text);
        x.house();
        same("fault of " + text, x.fault(0), 0);
        return x;
    }

    static void feed(SoManyStairs x, String text) {
        x.end(0);
        for (int at = 0; at < text.length(); at += 20) {
            x.feed(four(text, at), four(text, at + 4), four(text, at + 8), four(text, at + 12), four(text, at + 16));
        }
        x.end(text.length());
    }

    private static int four(String text, int at) {
        int number = 0;
        for (int place = at; place < at + 4; place++) {
            number = number << 8 | (place < text.length() ? text.charAt(place) & 255 : 0);
        }
        return number;
    }

    static String times(int n, String piece) {
        return piece.repeat(n);
    }

    static String tenant(String name, int on, int strong, int heavy, int owes) {
        return "tenant " + name + " on " + on + " strong " + strong + " heavy " + heavy + " owes " + owes + ";";
    }

    static void weeks(SoManyStairs x, int n) {
        for (int i = 0; i < n; i++) {
            x.week();
        }
    }

    /** All that calls can change, but for what the BOXES keep: about(), the tenants, what lies there. */
    static int[] state(SoManyStairs x) {
        int[] state = new int[13 + 3 * 8 + 8];
        for (int what = 0; what < 13; what++) {
            state[what] = x.about(what);
        }
        for (int i = 0; i < 3 * x.about(0); i++) {
            state[13 + i] = x.tenant(i / 3, 5 + i % 3);
        }
        for (int i = 0; i < x.about(12); i++) {
            state[13 + 3 * 8 + i] = x.lies(i);
        }
        return state;
    }

    static void stays(String what, SoManyStairs x, int[] before) {
        int[] now = state(x);
        for (int i = 0; i < before.length; i++) {
            same(what + ": number " + i + " of the state", now[i], before[i]);
        }
    }

    static void end(String test) {
        System.out.println(test + ": " + right + " answers as due, " + wrong + " not");
        if (wrong != 0) {
            System.exit(1);
        }
    }
}
