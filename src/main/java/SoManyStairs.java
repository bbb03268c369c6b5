/**
 * A tall house whose rent is paid by climbing: its tenants, their climbs, the lift that hangs on
 * those who walk, and what can be asked of them. DOC.md tells what each call promises.
 */
public final class SoManyStairs {
    public static final int NONE = -1;

    private static final int NOTHING_LIES = -2;
    private static final int MOST_BYTES = 1600;
    private static final int BYTES_A_FEED = 20;
    private static final int MOST_TENANTS = 8;
    private static final int MOST_STOREYS = 20;
    private static final int MOST_STRONG = 40;
    private static final int MOST_HEAVY = 9;
    private static final int MOST_OWED = 999;
    private static final int MOST_FAILS = 100;
    private static final int MOST_PAID = 9999;
    private static final int MOST_COUNTED = 999;
    private static final int MOST_WEEKS = 999;
    private static final int MOST_AHEAD = 60;
    private static final int MOST_LEVER = 99;
    private static final int MOST_ODDS = 4;
    private static final int MOST_TEAM = 400;
    private static final int MOST_GIFTS = 64;
    private static final int STOREYS_A_MONTH = 30;
    private static final int MOST_COST = STOREYS_A_MONTH * MOST_STOREYS + MOST_OWED;
    private static final int MOST_HOVER = 999;
    private static final int MOST_DRAW = 999;
    private static final int DAY = 0;
    private static final int NIGHT = 1;

    private final byte[] tape = new byte[MOST_BYTES];
    private int bytes = 0;
    private final Reader reader = new Reader(tape);
    private House told = new House();
    private House spare = new House();
    private final State now = new State();
    private final State ahead = new State();
    private final Kept kept = new Kept();
    private final Lying lying = new Lying();
    private final Chalk marks = new Chalk();
    private final Pairing pairing = new Pairing();
    private final Plan plan = new Plan();
    private final Letting letting = new Letting();

    public SoManyStairs() {
        told.begin(now);
        kept.restart(now);
    }

    // ---- The TAPE and the HOUSE

    public int feed(int a, int b, int c, int d, int e) {
        if (bytes > MOST_BYTES - BYTES_A_FEED) {
            return NONE;
        }
        feedOne(a);
        feedOne(b);
        feedOne(c);
        feedOne(d);
        feedOne(e);
        return bytes;
    }

    private void feedOne(int number) {
        for (int shift = 24; shift >= 0; shift -= 8) {
            if (bytes >= 0 && bytes < tape.length) {
                tape[bytes] = (byte) (number >>> shift);
                bytes++;
            }
        }
    }

    public int end(int n) {
        if (n < 0 || n > bytes) {
            return NONE;
        }
        bytes = n;
        return n;
    }

    public int house() {
        boolean good = reader.read(bytes, spare);
        bytes = 0;
        if (!good) {
            return NONE;
        }
        House before = told;
        told = spare;
        spare = before;
        told.begin(now);
        kept.restart(now);
        kept.clearBoxes();
        marks.clear();
        lying.clear();
        return told.tenants;
    }

    public int fault(int what) {
        if (what == 0) {
            return reader.fault;
        }
        return what == 1 ? reader.place : NONE;
    }

    // ---- TENANTS and ACTS

    public int tenant(int tenant, int what) {
        if (!told.hasTenant(tenant)) {
            return NONE;
        }
        switch (what) {
            case 0:
                return told.on[tenant];
            case 1:
                return told.strong[tenant];
            case 2:
                return told.heavy[tenant];
            case 3:
                return told.owes[tenant];
            case 4:
                return told.fails[tenant];
            case 5:
                return now.breath[tenant];
            case 6:
                return now.paid[tenant];
            case 7:
                return now.debt[tenant];
            case 8:
                return told.lackOf(now, tenant);
            default:
                return NONE;
        }
    }

    public int worth(int tenant, int storeys, int carried, int night, int what) {
        if (!told.canClimb(now, tenant, storeys, carried, night)) {
            return NONE;
        }
        int heavy = told.heavyOf(carried);
        if (what == 0) {
            return told.countOf(now, storeys, heavy, night, now.climbed);
        }
        return what == 1 ? told.breathFor(storeys, heavy) : NONE;
    }

    public int climb(int tenant, int storeys, int carried, int night) {
        if (!told.canClimb(now, tenant, storeys, carried, night)) {
            return NONE;
        }
        int heavy = told.heavyOf(carried);
        int counted = told.countOf(now, storeys, heavy, night, now.climbed);
        if (told.failsNext(now, tenant)) {
            counted = 0;
        }
        told.walk(now, tenant, storeys, heavy, counted);
        kept.keepAct(now);
        return counted;
    }

    public int give(int tenant, int other, int stairs) {
        if (!areTwo(tenant, other) || stairs < 1 || stairs > now.paid[tenant]
                || now.paid[other] > MOST_PAID - stairs) {
            return NONE;
        }
        now.paid[tenant] -= stairs;
        now.paid[other] += stairs;
        kept.keepAct(now);
        return now.paid[other];
    }

    private boolean areTwo(int tenant, int other) {
        return told.hasTenant(tenant) && told.hasTenant(other) && tenant != other;
    }

    public int week() {
        if (now.week >= MOST_WEEKS) {
            return NONE;
        }
        told.passWeek(now);
        kept.keepAct(now);
        return now.lift;
    }

    public boolean undo() {
        return kept.takeBack(now);
    }

    public boolean redo() {
        return kept.doAgain(now);
    }

    // ---- What is asked of one TENANT

    public int fewest(int tenant) {
        lying.clear();
        if (!told.hasTenant(tenant)) {
            return NONE;
        }
        return plan.fewestClimbs(told, now, tenant, lying);
    }

    public int ladder(int tenant) {
        if (!told.hasTenant(tenant)) {
            return NONE;
        }
        return plan.mostCounted(told, now, tenant);
    }

    public int carries(int tenant, int other) {
        if (!areTwo(tenant, other)) {
            return NONE;
        }
        int most = 0;
        for (int storeys = 1; storeys <= told.storeys; storeys++) {
            if (told.breathFor(storeys, told.heavy[other]) <= now.breath[tenant]) {
                most = storeys;
            }
        }
        return most;
    }

    public int envies(int tenant) {
        if (!told.hasTenant(tenant)) {
            return NONE;
        }
        int bits = 0;
        for (int other = 0; other < told.tenants; other++) {
            if (told.isEnvious(tenant, told.on[tenant], other, told.on[other])) {
                bits |= 1 << other;
            }
        }
        return bits;
    }

    public int month(int tenant) {
        return told.hasTenant(tenant) ? told.costOf(tenant) : NONE;
    }

    public int odds(int tenant, int n, int m, int part) {
        if (!told.hasTenant(tenant) || n < 0 || n > MOST_ODDS || m < 0 || m > n || part < 0 || part > 1) {
            return NONE;
        }
        int fails = told.fails[tenant];
        int upper = 0;
        for (int good = m; good <= n; good++) {
            upper += ways(n, good) * power(MOST_FAILS - fails, good) * power(fails, n - good);
        }
        int lower = power(MOST_FAILS, n);
        int common = commonDivisor(upper, lower);
        if (common == 0) {
            return NONE;
        }
        return part == 0 ? upper / common : lower / common;
    }

    private static int ways(int n, int chosen) {
        int ways = 1;
        for (int i = 0; i < chosen; i++) {
            ways = ways * (n - i) / (i + 1);
        }
        return ways;
    }

    private static int power(int base, int times) {
        int power = 1;
        for (int i = 0; i < times; i++) {
            power *= base;
        }
        return power;
    }

    private static int commonDivisor(int a, int b) {
        int divisor = a;
        int rest = b;
        // Each two steps halve the rest at least, so an int is through long before the bound.
        for (int step = 0; step < 100 && rest != 0; step++) {
            int next = divisor % rest;
            divisor = rest;
            rest = next;
        }
        return divisor;
    }

    public int stride(int tenant, int night) {
        if (!told.hasTenant(tenant) || night != DAY && night != NIGHT) {
            return NONE;
        }
        int best = NONE;
        int bestCount = 0;
        for (int storeys = 1; storeys <= told.storeys; storeys++) {
            if (told.breathFor(storeys, 0) <= now.breath[tenant]) {
                int count = told.countOf(now, storeys, 0, night, now.climbed);
                if (best == NONE || count * best > bestCount * storeys) {
                    best = storeys;
                    bestCount = count;
                }
            }
        }
        return best;
    }

    public int settle(int tenant, int storeys) {
        if (!told.hasTenant(tenant) || !told.canBeClimbed(storeys)) {
            return NONE;
        }
        ahead.copyFrom(now);
        for (int weeks = 0; weeks <= MOST_AHEAD; weeks++) {
            told.climbTillPaid(ahead, tenant, storeys);
            if (told.lackOf(ahead, tenant) == 0) {
                return weeks;
            }
            told.passWeek(ahead);
        }
        return NONE;
    }

    // ---- What is asked of all TENANTS

    public int care() {
        pairing.clear(told.tenants);
        for (int tenant = 0; tenant < told.tenants; tenant++) {
            if (told.on[tenant] > 0) {
                int breath = told.breathFor(told.on[tenant], told.heavy[tenant]);
                pairing.allow(tenant, othersWithBreath(tenant, breath), 0);
            }
        }
        pairing.solve();
        pairing.layTo(lying);
        return pairing.pairs();
    }

    public int proxy() {
        pairProxies();
        pairing.layTo(lying);
        return pairing.pairs();
    }

    public int toil() {
        pairProxies();
        return pairing.storeys();
    }

    private void pairProxies() {
        pairing.clear(told.tenants);
        for (int tenant = 0; tenant < told.tenants; tenant++) {
            int lack = told.lackOf(now, tenant);
            if (lack > 0) {
                int storeys = fewestStoreysFor(lack);
                if (storeys != NONE) {
                    int breath = told.breathFor(storeys, 0);
                    pairing.allow(tenant, othersWithBreath(tenant, breath), storeys);
                }
            }
        }
        pairing.solve();
    }

    private int fewestStoreysFor(int lack) {
        for (int storeys = 1; storeys <= told.storeys; storeys++) {
            if (told.countOf(now, storeys, 0, DAY, now.climbed) >= lack) {
                return storeys;
            }
        }
        return NONE;
    }

    private int othersWithBreath(int tenant, int breath) {
        int bits = 0;
        for (int other = 0; other < told.tenants; other++) {
            if (other != tenant && now.breath[other] >= breath) {
                bits |= 1 << other;
            }
        }
        return bits;
    }

    public int gifts(int what) {
        if (what < 0 || what > 2) {
            return NONE;
        }
        ahead.copyFrom(now);
        int times = 0;
        int stairs = 0;
        // Each gift leaves a giver without more to give or a taker done with, so the bound is never met.
        for (int i = 0; i < MOST_GIFTS; i++) {
            int gift = giveNext();
            if (gift <= 0) {
                break;
            }
            times++;
            stairs += gift;
        }
        if (what == 0) {
            return times;
        }
        return what == 1 ? stairs : lacksAhead();
    }

    private int giveNext() {
        int giver = NONE;
        int taker = NONE;
        for (int tenant = told.tenants - 1; tenant >= 0; tenant--) {
            if (told.surplusOf(ahead, tenant) > 0) {
                giver = tenant;
            }
            if (told.lackOf(ahead, tenant) > 0 && ahead.paid[tenant] < MOST_PAID) {
                taker = tenant;
            }
        }
        if (!areTwo(giver, taker)) {
            return 0;
        }
        int gift = Math.min(told.surplusOf(ahead, giver), told.lackOf(ahead, taker));
        gift = Math.min(gift, MOST_PAID - ahead.paid[taker]);
        ahead.paid[giver] -= gift;
        ahead.paid[taker] += gift;
        return gift;
    }

    private int lacksAhead() {
        int sum = 0;
        for (int tenant = 0; tenant < told.tenants; tenant++) {
            sum += told.lackOf(ahead, tenant);
        }
        return sum;
    }

    public int let() {
        lying.clear();
        if (told.tenants == 0) {
            return NONE;
        }
        return letting.leastDifference(told, lying);
    }

    public int poorest() {
        int poorest = NONE;
        int most = NONE;
        for (int tenant = 0; tenant < told.tenants; tenant++) {
            int lack = told.lackOf(now, tenant);
            if (lack > most) {
                most = lack;
                poorest = tenant;
            }
        }
        return poorest;
    }

    public int owing() {
        int bits = 0;
        for (int tenant = 0; tenant < told.tenants; tenant++) {
            if (told.lackOf(now, tenant) > 0) {
                bits |= 1 << tenant;
            }
        }
        return bits;
    }

    public int law(int n) {
        if (n < -MOST_OWED || n > MOST_OWED) {
            return NONE;
        }
        int count = 0;
        for (int tenant = 0; tenant < told.tenants; tenant++) {
            int owes = Math.max(0, told.owes[tenant] + n);
            if (owes + now.debt[tenant] > now.paid[tenant]) {
                count++;
            }
        }
        return count;
    }

    public int team(int storeys, int what) {
        if (storeys < 0 || storeys > MOST_TEAM || what < 0 || what > 1) {
            return NONE;
        }
        int best = NONE;
        int fewest = MOST_TENANTS + 1;
        for (int bits = 0; bits < 1 << told.tenants; bits++) {
            int count = Integer.bitCount(bits);
            if (count < fewest && breathTogether(bits) >= storeys) {
                best = bits;
                fewest = count;
            }
        }
        if (best == NONE) {
            return NONE;
        }
        return what == 0 ? fewest : best;
    }

    private int breathTogether(int bits) {
        int sum = 0;
        for (int tenant = 0; tenant < told.tenants; tenant++) {
            if ((bits >> tenant & 1) == 1) {
                sum += now.breath[tenant];
            }
        }
        return sum;
    }

    public int quarrel() {
        return told.enviesIfSwapped(NONE, NONE);
    }

    public int calm(int what) {
        if (what < 0 || what > 2) {
            return NONE;
        }
        int first = NONE;
        int second = NONE;
        int fewest = told.enviesIfSwapped(NONE, NONE);
        for (int one = 0; one < told.tenants; one++) {
            for (int other = one + 1; other < told.tenants; other++) {
                int left = told.enviesIfSwapped(one, other);
                if (left < fewest) {
                    fewest = left;
                    first = one;
                    second = other;
                }
            }
        }
        if (first == NONE) {
            return NONE;
        }
        if (what == 0) {
            return first;
        }
        return what == 1 ? second : fewest;
    }

    public int spread() {
        if (told.tenants == 0) {
            return NONE;
        }
        int least = MOST_COST;
        int most = 0;
        for (int tenant = 0; tenant < told.tenants; tenant++) {
            least = Math.min(least, told.costOf(tenant));
            most = Math.max(most, told.costOf(tenant));
        }
        return most - least;
    }

    public int live(int storey) {
        if (!told.hasStorey(storey)) {
            return NONE;
        }
        int bits = 0;
        for (int tenant = 0; tenant < told.tenants; tenant++) {
            if (told.on[tenant] == storey) {
                bits |= 1 << tenant;
            }
        }
        return bits;
    }

    public int lies(int i) {
        return lying.get(i);
    }

    // ---- What weeks bring

    public int rest() {
        ahead.copyFrom(now);
        for (int weeks = 0; weeks <= MOST_AHEAD; weeks++) {
            int before = ahead.lift;
            told.passWeek(ahead);
            if (ahead.lift == before) {
                return weeks;
            }
        }
        return NONE;
    }

    public int will(int n) {
        if (!lookAhead(n)) {
            return NONE;
        }
        return ahead.lift;
    }

    public int ruin(int n) {
        if (!lookAhead(n)) {
            return NONE;
        }
        int sum = 0;
        for (int tenant = 0; tenant < told.tenants; tenant++) {
            sum += ahead.debt[tenant];
        }
        return sum;
    }

    private boolean lookAhead(int weeks) {
        if (weeks < 0 || weeks > MOST_AHEAD) {
            return false;
        }
        ahead.copyFrom(now);
        for (int i = 0; i < weeks; i++) {
            told.passWeek(ahead);
        }
        return true;
    }

    public int pull() {
        return told.pullOf(now, now.climbed);
    }

    public int lever() {
        for (int more = 0; more <= MOST_LEVER; more++) {
            if (told.liftBehind(now, now.climbed + more) > now.lift) {
                return more;
            }
        }
        return NONE;
    }

    public int hover(int climbed) {
        if (climbed < 0 || climbed > MOST_HOVER) {
            return NONE;
        }
        ahead.copyFrom(now);
        for (int i = 0; i < MOST_AHEAD; i++) {
            ahead.climbed = climbed;
            told.passWeek(ahead);
        }
        return ahead.lift;
    }

    // ---- CHALK

    public int chalk(int storey, boolean is) {
        if (!told.hasStorey(storey)) {
            return NONE;
        }
        return marks.tell(true, storey, is);
    }

    public int tread(int heavy, boolean is) {
        if (heavy < 0 || heavy > MOST_HEAVY) {
            return NONE;
        }
        return marks.tell(false, heavy, is);
    }

    public boolean untell(int mark) {
        return marks.takeOut(mark);
    }

    public int later(int by) {
        return marks.passTime(by);
    }

    public int runs(int k) {
        marks.look(told, k);
        return marks.runsFound;
    }

    public int who(int k) {
        marks.look(told, k);
        return marks.tenantsFound;
    }

    public int ask(int what, int k) {
        if (what < 0 || what > 1) {
            return NONE;
        }
        marks.look(told, k);
        if (marks.runsFound == 0) {
            return NONE;
        }
        int best = NONE;
        int fewest = 0;
        for (int storey = 0; storey <= told.storeys; storey++) {
            int left = marks.leftAtMost(storey);
            if (best == NONE || left < fewest) {
                best = storey;
                fewest = left;
            }
        }
        return what == 0 ? best : fewest;
    }

    // ---- BOXES and the rest

    public int image(int box) {
        return kept.keepInBox(box, now) ? now.week : NONE;
    }

    public int back(int box) {
        if (!kept.loadFromBox(box, now)) {
            return NONE;
        }
        kept.restart(now);
        return now.week;
    }

    public int about(int what) {
        switch (what) {
            case 0:
                return told.tenants;
            case 1:
                return told.storeys;
            case 2:
                return now.lift;
            case 3:
                return now.climbed;
            case 4:
                return now.week;
            case 5:
                return now.seed;
            case 6:
                return kept.done;
            case 7:
                return kept.undone;
            case 8:
                return marks.count;
            case 9:
                return marks.time;
            case 10:
                return bytes;
            case 11:
                return told.units;
            case 12:
                return lying.count;
            default:
                return NONE;
        }
    }

    /** A whole formula, kept behind one another as steps of a stack. */
    private static final class Formula {
        private static final int NUMBER = 0;
        private static final int STOREYS = 1;
        private static final int HEAVY = 2;
        private static final int NIGHTLY = 3;
        private static final int WEEK = 4;
        private static final int CLIMBED = 5;
        private static final int LIFT = 6;
        private static final int NOT = 7;
        // 30 units, 29 signs or words between them, 7 nots at most ahead of each unit: 269.
        private static final int MOST_STEPS = 300;

        private final int[] kinds = new int[MOST_STEPS];
        private final int[] numbers = new int[MOST_STEPS];
        private int steps = 0;
        private final int[] stack = new int[32];
        private int top = 0;

        void clear() {
            steps = 0;
        }

        void addNumber(int number) {
            addStep(NUMBER, number);
        }

        void add(int kind) {
            addStep(kind, 0);
        }

        private void addStep(int kind, int number) {
            if (steps >= 0 && steps < MOST_STEPS) {
                kinds[steps] = kind;
                numbers[steps] = number;
                steps++;
            }
        }

        int valueOf(int storeys, int heavy, int night, int week, int climbed, int lift) {
            top = 0;
            for (int i = 0; i < steps && i < MOST_STEPS; i++) {
                switch (kinds[i]) {
                    case NUMBER:
                        push(numbers[i]);
                        break;
                    case STOREYS:
                        push(storeys);
                        break;
                    case HEAVY:
                        push(heavy);
                        break;
                    case NIGHTLY:
                        push(night);
                        break;
                    case WEEK:
                        push(week);
                        break;
                    case CLIMBED:
                        push(climbed);
                        break;
                    case LIFT:
                        push(lift);
                        break;
                    case NOT:
                        push(pop() == 0 ? 1 : 0);
                        break;
                    default:
                        int right = pop();
                        int left = pop();
                        push(joined(kinds[i], left, right));
                        break;
                }
            }
            return pop();
        }

        private void push(int value) {
            if (top >= 0 && top < stack.length) {
                stack[top] = value;
                top++;
            }
        }

        private int pop() {
            if (top < 1 || top > stack.length) {
                return 0;
            }
            top--;
            return stack[top];
        }

        private static int joined(int sign, int left, int right) {
            switch (sign) {
                case '+':
                    return left + right;
                case '-':
                    return left - right;
                case '*':
                    return left * right;
                case '/':
                    return right == 0 ? 0 : left / right;
                case '%':
                    return right == 0 ? 0 : left % right;
                case '<':
                    return left < right ? 1 : 0;
                case '>':
                    return left > right ? 1 : 0;
                case '=':
                    return left == right ? 1 : 0;
                case '&':
                    return left != 0 && right != 0 ? 1 : 0;
                case '|':
                    return left != 0 || right != 0 ? 1 : 0;
                default:
                    return 0;
            }
        }
    }

    /** What is so of the house at one moment; a HOUSE says what changes it. */
    private static final class State {
        private static final int SIZE = 3 * MOST_TENANTS + 4;

        private final int[] breath = new int[MOST_TENANTS];
        private final int[] paid = new int[MOST_TENANTS];
        private final int[] debt = new int[MOST_TENANTS];
        private int climbed = 0;
        private int lift = 0;
        private int week = 0;
        private int seed = 0;

        void copyFrom(State other) {
            System.arraycopy(other.breath, 0, breath, 0, MOST_TENANTS);
            System.arraycopy(other.paid, 0, paid, 0, MOST_TENANTS);
            System.arraycopy(other.debt, 0, debt, 0, MOST_TENANTS);
            climbed = other.climbed;
            lift = other.lift;
            week = other.week;
            seed = other.seed;
        }

        void saveTo(int[] rows, int slot) {
            int at = slot * SIZE;
            if (at < 0 || at > rows.length - SIZE) {
                return;
            }
            System.arraycopy(breath, 0, rows, at, MOST_TENANTS);
            System.arraycopy(paid, 0, rows, at + MOST_TENANTS, MOST_TENANTS);
            System.arraycopy(debt, 0, rows, at + 2 * MOST_TENANTS, MOST_TENANTS);
            rows[at + SIZE - 4] = climbed;
            rows[at + SIZE - 3] = lift;
            rows[at + SIZE - 2] = week;
            rows[at + SIZE - 1] = seed;
        }

        void loadFrom(int[] rows, int slot) {
            int at = slot * SIZE;
            if (at < 0 || at > rows.length - SIZE) {
                return;
            }
            System.arraycopy(rows, at, breath, 0, MOST_TENANTS);
            System.arraycopy(rows, at + MOST_TENANTS, paid, 0, MOST_TENANTS);
            System.arraycopy(rows, at + 2 * MOST_TENANTS, debt, 0, MOST_TENANTS);
            climbed = rows[at + SIZE - 4];
            lift = rows[at + SIZE - 3];
            week = rows[at + SIZE - 2];
            seed = rows[at + SIZE - 1];
        }
    }

    /** A HOUSE as it was told, and what its rules do to a State. */
    private static final class House {
        private int storeys = 9;
        private int liftAtFirst = 0;
        private int tenants = 0;
        private final int[] on = new int[MOST_TENANTS];
        private final int[] strong = new int[MOST_TENANTS];
        private final int[] heavy = new int[MOST_TENANTS];
        private final int[] owes = new int[MOST_TENANTS];
        private final int[] fails = new int[MOST_TENANTS];
        private final Formula counts = new Formula();
        private final Formula moves = new Formula();
        private int draw = 0;
        private int units = 0;

        House() {
            clear();
        }

        void clear() {
            storeys = 9;
            liftAtFirst = 0;
            tenants = 0;
            draw = 0;
            units = 0;
            for (int t = 0; t < MOST_TENANTS; t++) {
                on[t] = 0;
                strong[t] = 0;
                heavy[t] = 0;
                owes[t] = 0;
                fails[t] = 0;
            }
            counts.clear();
            counts.add(Formula.STOREYS);
            counts.addNumber(10);
            counts.add('*');
            moves.clear();
            moves.add(Formula.CLIMBED);
            moves.addNumber(10);
            moves.add('/');
        }

        void begin(State state) {
            for (int t = 0; t < MOST_TENANTS; t++) {
                state.breath[t] = strong[t];
                state.paid[t] = 0;
                state.debt[t] = 0;
            }
            state.climbed = 0;
            state.lift = liftAtFirst;
            state.week = 0;
            state.seed = draw;
        }

        boolean hasTenant(int tenant) {
            return tenant >= 0 && tenant < tenants && tenant < MOST_TENANTS;
        }

        boolean hasStorey(int storey) {
            return storey >= 0 && storey <= storeys;
        }

        boolean canBeClimbed(int by) {
            return by >= 1 && by <= storeys;
        }

        int heavyOf(int carried) {
            return hasTenant(carried) ? heavy[carried] : 0;
        }

        int breathFor(int by, int carriedHeavy) {
            return by * (1 + carriedHeavy / 3);
        }

        int costOf(int tenant) {
            return STOREYS_A_MONTH * on[tenant] + owes[tenant];
        }

        int lackOf(State state, int tenant) {
            return Math.max(0, owes[tenant] + state.debt[tenant] - state.paid[tenant]);
        }

        int surplusOf(State state, int tenant) {
            return Math.max(0, state.paid[tenant] - owes[tenant] - state.debt[tenant]);
        }

        boolean canClimb(State state, int tenant, int by, int carried, int night) {
            if (!hasTenant(tenant) || !canBeClimbed(by) || night != DAY && night != NIGHT) {
                return false;
            }
            if (carried != NONE && (!hasTenant(carried) || carried == tenant)) {
                return false;
            }
            return breathFor(by, heavyOf(carried)) <= state.breath[tenant];
        }

        int countOf(State state, int by, int carriedHeavy, int night, int climbed) {
            int count = counts.valueOf(by, carriedHeavy, night, state.week, climbed, state.lift);
            return Math.max(0, Math.min(MOST_COUNTED, count));
        }

        /** The next draw: the SEED goes on, whatever comes of it. */
        boolean failsNext(State state, int tenant) {
            state.seed = (state.seed * 137 + 71) % 1000;
            return state.seed % 100 < fails[tenant];
        }

        void walk(State state, int tenant, int by, int carriedHeavy, int counted) {
            state.paid[tenant] = Math.min(MOST_PAID, state.paid[tenant] + counted);
            state.breath[tenant] -= breathFor(by, carriedHeavy);
            state.climbed += by;
        }

        void climbTillPaid(State state, int tenant, int by) {
            for (int i = 0; i < MOST_STRONG; i++) {
                if (lackOf(state, tenant) == 0 || state.breath[tenant] < breathFor(by, 0)) {
                    return;
                }
                walk(state, tenant, by, 0, countOf(state, by, 0, DAY, state.climbed));
            }
        }

        int pullOf(State state, int climbed) {
            int heavyTogether = 0;
            for (int t = 0; t < tenants; t++) {
                heavyTogether += heavy[t];
            }
            return moves.valueOf(storeys, heavyTogether, DAY, state.week, climbed, state.lift);
        }

        int liftBehind(State state, int climbed) {
            return Math.max(0, Math.min(storeys, state.lift + pullOf(state, climbed)));
        }

        void passWeek(State state) {
            state.lift = liftBehind(state, state.climbed);
            state.climbed = 0;
            state.week++;
            boolean due = state.week % 4 == 0;
            for (int t = 0; t < tenants; t++) {
                state.breath[t] = strong[t];
                if (due) {
                    payRent(state, t);
                }
            }
        }

        private void payRent(State state, int tenant) {
            int debt = state.debt[tenant] + owes[tenant];
            int pays = Math.min(debt, state.paid[tenant]);
            state.debt[tenant] = debt - pays;
            state.paid[tenant] -= pays;
        }

        boolean isEnvious(int tenant, int storey, int other, int otherStorey) {
            return otherStorey <= storey && owes[other] < owes[tenant];
        }

        /** How many ENVIES there are if two exchange storeys; NONE and NONE: as they live now. */
        int enviesIfSwapped(int one, int another) {
            int count = 0;
            for (int t = 0; t < tenants; t++) {
                for (int o = 0; o < tenants; o++) {
                    if (isEnvious(t, storeyIfSwapped(t, one, another), o, storeyIfSwapped(o, one, another))) {
                        count++;
                    }
                }
            }
            return count;
        }

        private int storeyIfSwapped(int tenant, int one, int another) {
            if (tenant == one && hasTenant(another)) {
                return on[another];
            }
            if (tenant == another && hasTenant(one)) {
                return on[one];
            }
            return on[tenant];
        }
    }

    /** The TOKENS of a text, one after another. */
    private static final class Tokens {
        private static final int END = 0;
        private static final int BAD = 1;
        private static final int WORD = 2;
        private static final int NUMBER = 3;
        private static final int SIGN = 4;
        private static final int BLANK = 5;
        private static final int LONGEST_WORD = 8;
        private static final int LONGEST_NUMBER = 4;
        private static final String SIGNS = ";()<>=+-*/%";
        private static final String OWN_WORDS =
                "storeys lift tenant on strong heavy owes fails counts moves draw or and not night week climbed";

        private final byte[] text;
        private int length = 0;
        private int kind = END;
        private int at = 0;
        private int next = 0;
        private int number = 0;
        private int sign = 0;
        private long word = 0;

        Tokens(byte[] text) {
            this.text = text;
        }

        void start(int bytes) {
            length = Math.max(0, Math.min(bytes, text.length));
            next = 0;
            step();
        }

        void step() {
            while (next < length && sortOf(byteAt(next)) == BLANK) {
                next++;
            }
            at = next;
            sign = byteAt(at);
            kind = sortOf(sign);
            number = 0;
            word = 0;
            boolean isLong = kind == WORD || kind == NUMBER;
            while (next < length && (next == at || isLong && sortOf(byteAt(next)) == kind)) {
                number = number * 10 + byteAt(next) - '0';
                word = withLetter(word, byteAt(next));
                next++;
            }
            boolean isTooLong = next - at > (kind == WORD ? LONGEST_WORD : LONGEST_NUMBER);
            if (isLong && isTooLong || kind == NUMBER && sortOf(byteAt(next)) == WORD) {
                kind = BAD;
            }
        }

        private int byteAt(int place) {
            return place >= 0 && place < length && place < text.length ? text[place] & 255 : NONE;
        }

        private static int sortOf(int sign) {
            if (sign == NONE) {
                return END;
            }
            if (sign == 32 || sign == 10) {
                return BLANK;
            }
            if (sign >= 'a' && sign <= 'z') {
                return WORD;
            }
            if (sign >= '0' && sign <= '9') {
                return NUMBER;
            }
            return SIGNS.indexOf((char) sign) >= 0 ? SIGN : BAD;
        }

        boolean isWord(String letters) {
            if (kind != WORD) {
                return false;
            }
            long code = 0;
            for (int i = 0; i < letters.length(); i++) {
                code = withLetter(code, letters.charAt(i));
            }
            return word == code;
        }

        boolean isSign(int which) {
            return kind == SIGN && sign == which;
        }

        boolean isName() {
            return kind == WORD && !isOwnWord();
        }

        private boolean isOwnWord() {
            long code = 0;
            for (int i = 0; i < OWN_WORDS.length(); i++) {
                char letter = OWN_WORDS.charAt(i);
                if (letter != ' ') {
                    code = withLetter(code, letter);
                } else if (code == word) {
                    return true;
                } else {
                    code = 0;
                }
            }
            return code == word;
        }

        // Five bits a letter: the eight of the longest word go into a long, no two words alike.
        private static long withLetter(long code, int letter) {
            return code * 32 + (letter - 'a' + 1);
        }
    }

    /** Reads the text of a HOUSE; the first FAULT met is the first by its place, as all is looked at in order. */
    private static final class Reader {
        private static final int NO_TOKEN = 1;
        private static final int MISPLACED = 2;
        private static final int TOLD_ALREADY = 3;
        private static final int WRONG_NUMBER = 4;
        // The two formulas of a text hold no more than the 60 units of all together then.
        private static final int MOST_UNITS = 30;
        private static final int DEEPEST = 6;

        private final Tokens tokens;
        private final long[] names = new long[MOST_TENANTS];
        private int units = 0;
        private boolean countsTold = false;
        private boolean movesTold = false;
        private boolean drawTold = false;
        private int fault = 0;
        private int place = NONE;

        Reader(byte[] text) {
            tokens = new Tokens(text);
        }

        boolean read(int bytes, House into) {
            into.clear();
            countsTold = false;
            movesTold = false;
            drawTold = false;
            fault = 0;
            place = NONE;
            tokens.start(bytes);
            lookForToken();
            if (isNext("storeys")) {
                readStoreys(into);
            }
            for (int line = 0; line < MOST_BYTES && isGoingOn(); line++) {
                readLine(into);
            }
            return fault == 0;
        }

        private boolean isGoingOn() {
            return fault == 0 && tokens.kind != Tokens.END;
        }

        private void fail(int which) {
            if (fault == 0) {
                fault = which;
                place = tokens.at;
            }
        }

        private void step() {
            if (fault == 0) {
                tokens.step();
                lookForToken();
            }
        }

        private void lookForToken() {
            if (tokens.kind == Tokens.BAD) {
                fail(NO_TOKEN);
            }
        }

        private void readStoreys(House into) {
            step();
            into.storeys = readNumber(1, MOST_STOREYS);
            if (isNext("lift")) {
                step();
                into.liftAtFirst = readNumber(0, into.storeys);
            }
            readSign(';');
        }

        private void readLine(House into) {
            if (tokens.isWord("tenant")) {
                readTenant(into);
            } else if (tokens.isWord("counts") && !countsTold) {
                countsTold = true;
                readFormula(into, into.counts);
            } else if (tokens.isWord("moves") && !movesTold) {
                movesTold = true;
                readFormula(into, into.moves);
            } else if (tokens.isWord("draw") && !drawTold) {
                drawTold = true;
                step();
                into.draw = readNumber(0, MOST_DRAW);
            } else {
                fail(MISPLACED);
            }
            readSign(';');
        }

        private void readTenant(House into) {
            int tenant = into.tenants;
            if (tenant < 0 || tenant >= MOST_TENANTS) {
                fail(MISPLACED);
                return;
            }
            step();
            readName(tenant);
            readWord("on");
            into.on[tenant] = readNumber(0, into.storeys);
            readWord("strong");
            into.strong[tenant] = readNumber(0, MOST_STRONG);
            readWord("heavy");
            into.heavy[tenant] = readNumber(0, MOST_HEAVY);
            readWord("owes");
            into.owes[tenant] = readNumber(0, MOST_OWED);
            if (isNext("fails")) {
                step();
                into.fails[tenant] = readNumber(0, MOST_FAILS);
            }
            into.tenants++;
        }

        private void readName(int tenant) {
            if (!tokens.isName()) {
                fail(MISPLACED);
                return;
            }
            for (int other = 0; other < tenant && other < MOST_TENANTS; other++) {
                if (names[other] == tokens.word) {
                    fail(TOLD_ALREADY);
                }
            }
            if (tenant >= 0 && tenant < MOST_TENANTS) {
                names[tenant] = tokens.word;
            }
            step();
        }

        private void readWord(String word) {
            if (!tokens.isWord(word)) {
                fail(MISPLACED);
            }
            step();
        }

        private int readNumber(int least, int most) {
            int number = tokens.number;
            if (tokens.kind != Tokens.NUMBER) {
                fail(MISPLACED);
            } else if (number < least || number > most) {
                fail(WRONG_NUMBER);
            }
            step();
            return number;
        }

        private void readSign(int sign) {
            if (!tokens.isSign(sign)) {
                fail(MISPLACED);
            }
            step();
        }

        private boolean isNext(String word) {
            return fault == 0 && tokens.isWord(word);
        }

        private boolean isNextSign(int sign) {
            return fault == 0 && tokens.isSign(sign);
        }

        private void readFormula(House house, Formula into) {
            into.clear();
            units = 0;
            step();
            readEither(into, 0);
            house.units += units;
        }

        private void readEither(Formula into, int depth) {
            readBoth(into, depth);
            for (int i = 0; i < MOST_UNITS && isNext("or"); i++) {
                step();
                readBoth(into, depth);
                into.add('|');
            }
        }

        private void readBoth(Formula into, int depth) {
            readOne(into, depth);
            for (int i = 0; i < MOST_UNITS && isNext("and"); i++) {
                step();
                readOne(into, depth);
                into.add('&');
            }
        }

        private void readOne(Formula into, int depth) {
            if (!isNext("not")) {
                readRelation(into, depth);
            } else if (depth > DEEPEST) {
                fail(MISPLACED);
            } else {
                step();
                readOne(into, depth + 1);
                into.add(Formula.NOT);
            }
        }

        private void readRelation(Formula into, int depth) {
            readSum(into, depth);
            int sign = tokens.sign;
            if (isNextSign('<') || isNextSign('>') || isNextSign('=')) {
                step();
                readSum(into, depth);
                into.add(sign);
            }
        }

        private void readSum(Formula into, int depth) {
            readTerm(into, depth);
            for (int i = 0; i < MOST_UNITS && (isNextSign('+') || isNextSign('-')); i++) {
                int sign = tokens.sign;
                step();
                readTerm(into, depth);
                into.add(sign);
            }
        }

        private void readTerm(Formula into, int depth) {
            readUnit(into, depth);
            for (int i = 0; i < MOST_UNITS && isNextFactor(); i++) {
                int sign = tokens.sign;
                step();
                readUnit(into, depth);
                into.add(sign);
            }
        }

        private boolean isNextFactor() {
            return isNextSign('*') || isNextSign('/') || isNextSign('%');
        }

        private void readUnit(Formula into, int depth) {
            if (fault != 0) {
                return;
            }
            if (units >= MOST_UNITS) {
                fail(MISPLACED);
                return;
            }
            units++;
            int measure = nextMeasure();
            if (tokens.isSign('(')) {
                readBracket(into, depth);
            } else if (tokens.kind == Tokens.NUMBER) {
                into.addNumber(tokens.number);
                step();
            } else if (measure != NONE) {
                into.add(measure);
                step();
            } else {
                fail(MISPLACED);
            }
        }

        private void readBracket(Formula into, int depth) {
            if (depth > DEEPEST) {
                fail(MISPLACED);
                return;
            }
            step();
            readEither(into, depth + 1);
            readSign(')');
        }

        private int nextMeasure() {
            if (tokens.isWord("storeys")) {
                return Formula.STOREYS;
            }
            if (tokens.isWord("heavy")) {
                return Formula.HEAVY;
            }
            if (tokens.isWord("night")) {
                return Formula.NIGHTLY;
            }
            if (tokens.isWord("week")) {
                return Formula.WEEK;
            }
            if (tokens.isWord("climbed")) {
                return Formula.CLIMBED;
            }
            return tokens.isWord("lift") ? Formula.LIFT : NONE;
        }
    }

    /** The States that are kept: ahead of the ACTS and behind them, and in BOXES. */
    private static final class Kept {
        private static final int MOST_ACTS = 40;
        private static final int SLOTS = MOST_ACTS + 1;
        private static final int MOST_BOXES = 3;

        // A ring of States: the one ahead of the oldest ACT, then the one behind each.
        private final int[] ring = new int[SLOTS * State.SIZE];
        private int oldest = 0;
        private int done = 0;
        private int undone = 0;
        private final int[] boxes = new int[MOST_BOXES * State.SIZE];
        private final boolean[] full = new boolean[MOST_BOXES];

        void restart(State state) {
            oldest = 0;
            done = 0;
            undone = 0;
            state.saveTo(ring, slotOf(0));
        }

        private int slotOf(int acts) {
            return (oldest + acts) % SLOTS;
        }

        void keepAct(State state) {
            undone = 0;
            if (done < MOST_ACTS) {
                done++;
            } else {
                oldest = slotOf(1);
            }
            state.saveTo(ring, slotOf(done));
        }

        boolean takeBack(State state) {
            if (done == 0) {
                return false;
            }
            done--;
            undone++;
            state.loadFrom(ring, slotOf(done));
            return true;
        }

        boolean doAgain(State state) {
            if (undone == 0) {
                return false;
            }
            done++;
            undone--;
            state.loadFrom(ring, slotOf(done));
            return true;
        }

        void clearBoxes() {
            for (int box = 0; box < MOST_BOXES; box++) {
                full[box] = false;
            }
        }

        boolean keepInBox(int box, State state) {
            if (box < 0 || box >= MOST_BOXES) {
                return false;
            }
            state.saveTo(boxes, box);
            full[box] = true;
            return true;
        }

        boolean loadFromBox(int box, State state) {
            if (box < 0 || box >= MOST_BOXES || !full[box]) {
                return false;
            }
            state.loadFrom(boxes, box);
            return true;
        }
    }

    /** The numbers that lie there. */
    private static final class Lying {
        private final int[] numbers = new int[MOST_TENANTS];
        private int count = 0;

        void clear() {
            count = 0;
        }

        void lay(int number) {
            if (count >= 0 && count < numbers.length) {
                numbers[count] = number;
                count++;
            }
        }

        int get(int i) {
            return i >= 0 && i < count && i < numbers.length ? numbers[i] : NOTHING_LIES;
        }
    }

    /** Who serves whom, each one at most: the most pairs, then the fewest storeys, then the first row. */
    private static final class Pairing {
        private static final int ALL_SETS = 1 << MOST_TENANTS;
        // Above all storeys that the pairs can have together, so that more pairs always go ahead.
        private static final int A_PAIR = 1000;

        private int tenants = 0;
        private final int[] servers = new int[MOST_TENANTS];
        private final int[] storeysOf = new int[MOST_TENANTS];
        private final int[] chosen = new int[MOST_TENANTS];
        // By the tenant from whom on pairs are made and the set of those who serve already.
        private final int[] best = new int[(MOST_TENANTS + 1) * ALL_SETS];

        void clear(int howMany) {
            tenants = Math.max(0, Math.min(howMany, MOST_TENANTS));
            for (int t = 0; t < MOST_TENANTS; t++) {
                servers[t] = 0;
                storeysOf[t] = 0;
                chosen[t] = NONE;
            }
        }

        void allow(int tenant, int whoCan, int storeys) {
            if (tenant >= 0 && tenant < tenants) {
                servers[tenant] = whoCan;
                storeysOf[tenant] = storeys;
            }
        }

        void solve() {
            int sets = 1 << tenants;
            for (int set = 0; set < sets; set++) {
                best[placeOf(tenants, set)] = 0;
            }
            for (int t = tenants - 1; t >= 0; t--) {
                for (int set = 0; set < sets; set++) {
                    // No more can serve already than there were tenants ahead.
                    if (Integer.bitCount(set) <= t) {
                        best[placeOf(t, set)] = bestFrom(t, set);
                    }
                }
            }
            choose();
        }

        private static int placeOf(int tenant, int set) {
            return tenant * ALL_SETS + (set & ALL_SETS - 1);
        }

        private int bestFrom(int tenant, int set) {
            int most = best[placeOf(tenant + 1, set)];
            for (int server = 0; server < tenants; server++) {
                if (canServe(server, tenant, set)) {
                    most = Math.max(most, valueWith(server, tenant, set));
                }
            }
            return most;
        }

        private boolean canServe(int server, int tenant, int set) {
            return (servers[tenant] >> server & 1) == 1 && (set >> server & 1) == 0;
        }

        private int valueWith(int server, int tenant, int set) {
            return A_PAIR - storeysOf[tenant] + best[placeOf(tenant + 1, set | 1 << server)];
        }

        private void choose() {
            int set = 0;
            for (int t = 0; t < tenants; t++) {
                int most = best[placeOf(t, set)];
                chosen[t] = NONE;
                for (int server = 0; server < tenants && chosen[t] == NONE; server++) {
                    if (canServe(server, t, set) && valueWith(server, t, set) == most) {
                        chosen[t] = server;
                    }
                }
                if (chosen[t] != NONE) {
                    set |= 1 << chosen[t];
                }
            }
        }

        void layTo(Lying lying) {
            lying.clear();
            for (int t = 0; t < tenants; t++) {
                lying.lay(chosen[t]);
            }
        }

        int pairs() {
            int count = 0;
            for (int t = 0; t < tenants; t++) {
                if (chosen[t] != NONE) {
                    count++;
                }
            }
            return count;
        }

        int storeys() {
            int sum = 0;
            for (int t = 0; t < tenants; t++) {
                if (chosen[t] != NONE) {
                    sum += storeysOf[t];
                }
            }
            return sum;
        }
    }

    /** What CLIMBS of one tenant this week, alone, by day, one behind the other, can come to. */
    private static final class Plan {
        private static final int MOST_CLIMBS = 4;
        private static final int ROW = MOST_STRONG + 1;

        private int breath = 0;
        private int longest = 0;
        // What a climb by so many storeys counts behind so many of his.
        private final int[] counted = new int[(MOST_STOREYS + 1) * ROW];
        // By climbs and storeys of them all, the most they count; NONE if they can't be.
        private final int[] most = new int[(MOST_CLIMBS + 1) * ROW];

        private void prepare(House house, State state, int tenant) {
            breath = house.hasTenant(tenant) ? Math.max(0, Math.min(MOST_STRONG, state.breath[tenant])) : 0;
            longest = Math.min(MOST_STOREYS, Math.min(house.storeys, breath));
            for (int behind = 0; behind < breath; behind++) {
                for (int by = 1; by <= longest && behind + by <= breath; by++) {
                    counted[by * ROW + behind] = house.countOf(state, by, 0, DAY, state.climbed + behind);
                }
            }
            for (int i = 0; i < most.length; i++) {
                most[i] = NONE;
            }
        }

        int mostCounted(House house, State state, int tenant) {
            prepare(house, state, tenant);
            most[0] = 0;
            int best = 0;
            for (int sum = 1; sum <= breath; sum++) {
                most[sum] = mostOfLast(0, sum);
                best = Math.max(best, most[sum]);
            }
            return best;
        }

        /** The most up to a sum by one climb more than a row's. */
        private int mostOfLast(int row, int sum) {
            int best = NONE;
            for (int by = 1; by <= longest && by <= sum; by++) {
                int before = most[row * ROW + sum - by];
                if (before != NONE) {
                    best = Math.max(best, before + counted[by * ROW + sum - by]);
                }
            }
            return best;
        }

        int fewestClimbs(House house, State state, int tenant, Lying lying) {
            int lack = house.lackOf(state, tenant);
            if (lack == 0) {
                return 0;
            }
            if (state.paid[tenant] + lack > MOST_PAID) {
                return NONE;
            }
            prepare(house, state, tenant);
            most[0] = 0;
            for (int climbs = 1; climbs <= MOST_CLIMBS; climbs++) {
                for (int sum = climbs; sum <= breath; sum++) {
                    most[climbs * ROW + sum] = mostOfLast(climbs - 1, sum);
                    if (most[climbs * ROW + sum] >= lack) {
                        layFirstRow(climbs, sum, lack, lying);
                        return climbs;
                    }
                }
            }
            return NONE;
        }

        private void layFirstRow(int climbs, int sum, int lack, Lying lying) {
            countBackwards(climbs, sum);
            int behind = 0;
            int left = lack;
            for (int more = climbs - 1; more >= 0; more--) {
                int by = firstClimb(more, behind, sum, left);
                if (by == NONE) {
                    return;
                }
                lying.lay(by);
                left -= counted[by * ROW + behind];
                behind += by;
            }
        }

        /** From here on a row of "most" is by climbs still to come and storeys behind. */
        private void countBackwards(int climbs, int sum) {
            for (int i = 0; i < most.length; i++) {
                most[i] = NONE;
            }
            most[sum] = 0;
            // The first climb of all is looked for by the rows of those behind it.
            for (int more = 1; more < climbs; more++) {
                for (int behind = 1; behind < sum; behind++) {
                    most[more * ROW + behind] = mostOfNext(more - 1, behind, sum);
                }
            }
        }

        private int mostOfNext(int more, int behind, int sum) {
            int best = NONE;
            for (int by = 1; by <= longest && behind + by <= sum; by++) {
                int after = most[more * ROW + behind + by];
                if (after != NONE) {
                    best = Math.max(best, after + counted[by * ROW + behind]);
                }
            }
            return best;
        }

        private int firstClimb(int more, int behind, int sum, int left) {
            for (int by = 1; by <= longest && behind + by <= sum; by++) {
                int after = most[more * ROW + behind + by];
                if (after != NONE && after + counted[by * ROW + behind] >= left) {
                    return by;
                }
            }
            return NONE;
        }
    }

    /**
     * Who lives where is told anew. Whatever the bounds for all rents, if any exchange keeps within them,
     * so does the one by which who owes more lives lower; so that one is as even as can be.
     */
    private static final class Letting {
        private final int[] storeys = new int[MOST_TENANTS];
        private final boolean[] taken = new boolean[MOST_TENANTS];
        private final int[] order = new int[MOST_TENANTS];
        private final int[] given = new int[MOST_TENANTS];

        int leastDifference(House house, Lying lying) {
            sortStoreys(house);
            sortTenants(house);
            int least = difference(house, 0);
            for (int tenant = 0; tenant < house.tenants; tenant++) {
                settleLowest(house, tenant, least);
                lying.lay(given[tenant]);
            }
            return least;
        }

        private void sortStoreys(House house) {
            for (int i = 0; i < house.tenants; i++) {
                int place = i;
                while (place > 0 && storeys[place - 1] > house.on[i]) {
                    storeys[place] = storeys[place - 1];
                    place--;
                }
                storeys[place] = house.on[i];
                taken[i] = false;
            }
        }

        private void sortTenants(House house) {
            for (int i = 0; i < house.tenants; i++) {
                int place = i;
                while (place > 0 && house.owes[order[place - 1]] < house.owes[i]) {
                    order[place] = order[place - 1];
                    place--;
                }
                order[place] = i;
            }
        }

        /** Of the lowest free storey by which the others can still be let as evenly. */
        private void settleLowest(House house, int tenant, int least) {
            for (int i = 0; i < house.tenants; i++) {
                if (!taken[i]) {
                    taken[i] = true;
                    given[tenant] = storeys[i];
                    if (difference(house, tenant + 1) <= least) {
                        return;
                    }
                    taken[i] = false;
                }
            }
        }

        /** The least difference, if the first so many tenants have their storeys already. */
        private int difference(House house, int settled) {
            int low = MOST_COST;
            int high = 0;
            int free = 0;
            for (int i = 0; i < house.tenants; i++) {
                int tenant = order[i];
                int storey = 0;
                if (tenant < settled) {
                    storey = given[tenant];
                } else {
                    while (free < house.tenants && taken[free]) {
                        free++;
                    }
                    storey = free < house.tenants ? storeys[free] : 0;
                    free++;
                }
                int cost = STOREYS_A_MONTH * storey + house.owes[tenant];
                low = Math.min(low, cost);
                high = Math.max(high, cost);
            }
            return high - low;
        }
    }

    /** The marks of CHALK, and by whom and where the widow's climb can have been as known at a time. */
    private static final class Chalk {
        private static final int MOST_MARKS = 30;
        private static final int MOST_TIME = 100000;
        private static final int MOST_LATER = 1000;

        private final boolean[] ofStorey = new boolean[MOST_MARKS];
        private final boolean[] is = new boolean[MOST_MARKS];
        private final int[] number = new int[MOST_MARKS];
        private final int[] toldAt = new int[MOST_MARKS];
        private final int[] untoldAt = new int[MOST_MARKS];
        private int count = 0;
        private int time = 0;

        // What was known at the time looked at: storeys of the run and others as bits, how heavy.
        private int with = 0;
        private int without = 0;
        private int leastHeavy = 0;
        private int belowHeavy = 0;
        private int runsFound = 0;
        private int tenantsFound = 0;
        private final int[] runsWith = new int[MOST_STOREYS + 1];

        void clear() {
            count = 0;
        }

        int tell(boolean aboutStorey, int what, boolean so) {
            if (count < 0 || count >= MOST_MARKS) {
                return NONE;
            }
            ofStorey[count] = aboutStorey;
            is[count] = so;
            number[count] = what;
            toldAt[count] = time;
            untoldAt[count] = NONE;
            count++;
            return count - 1;
        }

        boolean takeOut(int mark) {
            if (mark < 0 || mark >= count || mark >= MOST_MARKS || untoldAt[mark] != NONE) {
                return false;
            }
            untoldAt[mark] = time;
            return true;
        }

        int passTime(int by) {
            if (by < 0 || by > MOST_LATER || time > MOST_TIME - by) {
                return NONE;
            }
            time += by;
            return time;
        }

        void look(House house, int k) {
            readMarks(k);
            runsFound = 0;
            tenantsFound = 0;
            for (int storey = 0; storey <= MOST_STOREYS; storey++) {
                runsWith[storey] = 0;
            }
            for (int tenant = 0; tenant < house.tenants; tenant++) {
                if (house.heavy[tenant] >= leastHeavy && house.heavy[tenant] < belowHeavy) {
                    lookAtRuns(house, tenant);
                }
            }
        }

        private void readMarks(int k) {
            with = 0;
            without = 0;
            leastHeavy = 0;
            belowHeavy = MOST_HEAVY + 1;
            for (int mark = 0; mark < count && mark < MOST_MARKS; mark++) {
                if (counts(mark, k)) {
                    readMark(mark);
                }
            }
        }

        private boolean counts(int mark, int k) {
            return toldAt[mark] <= k && (untoldAt[mark] == NONE || untoldAt[mark] > k);
        }

        private void readMark(int mark) {
            if (ofStorey[mark] && is[mark]) {
                with |= 1 << number[mark];
            } else if (ofStorey[mark]) {
                without |= 1 << number[mark];
            } else if (is[mark]) {
                leastHeavy = Math.max(leastHeavy, number[mark]);
            } else {
                belowHeavy = Math.min(belowHeavy, number[mark]);
            }
        }

        private void lookAtRuns(House house, int tenant) {
            for (int low = 0; low < house.storeys; low++) {
                int run = 1 << low;
                for (int high = low + 1; high <= house.storeys && high - low <= house.strong[tenant]; high++) {
                    run |= 1 << high;
                    if ((run & with) == with && (run & without) == 0) {
                        runsFound++;
                        tenantsFound |= 1 << tenant;
                        noteRun(low, high);
                    }
                }
            }
        }

        private void noteRun(int low, int high) {
            for (int storey = low; storey <= high && storey <= MOST_STOREYS; storey++) {
                runsWith[storey]++;
            }
        }

        int leftAtMost(int storey) {
            if (storey < 0 || storey > MOST_STOREYS) {
                return runsFound;
            }
            return Math.max(runsWith[storey], runsFound - runsWith[storey]);
        }
    }
}
