/** The boundary cases of TENANTS, CLIMBS, what they COUNT, gifts, WEEKS, UNDO, REDO, BOXES: promises 6 to 12, 48, 49. */
final class ActEdges {
    private static final int MIN = Integer.MIN_VALUE;
    private static final int MAX = Integer.MAX_VALUE;
    // 2 to the 31st wraps to the least int.
    private static final String LEAST_INT = "2*(1024*1024*1024)";

    private ActEdges() {
    }

    private static SoManyStairs pair() {
        return Check.told("storeys 6 lift 2;tenant a on 5 strong 12 heavy 7 owes 100 fails 30;"
                + "tenant b on 0 strong 6 heavy 2 owes 40;draw 9;");
    }

    /** Where each week moves the lift, by what was climbed. */
    private static SoManyStairs moving() {
        return Check.told("storeys 6 lift 2;tenant a on 5 strong 12 heavy 7 owes 100 fails 30;"
                + "tenant b on 0 strong 6 heavy 2 owes 40;draw 9;moves climbed-week%2-1;");
    }

    /** What comes of a formula, without any bounds: nine storeys, nobody there, week 0, the lift at 0. */
    private static void value(String formula, int due) {
        Check.same(formula, Check.told("moves " + formula + ";").pull(), due);
    }

    /** What a climb by three storeys counts. */
    private static void counts(String formula, int due) {
        Check.same("counts " + formula, Check.told(Check.tenant("a", 1, 9, 9, 0) + "counts " + formula + ";").climb(0, 3, -1, 0), due);
    }

    // ---- TENANTS

    @Says("A TENANT has BREATH (as many storeys as he is strong, at first)")
    private static void breathAtFirst() {
        SoManyStairs x = Check.told(Check.tenant("a", 1, 0, 0, 0) + Check.tenant("b", 1, 40, 0, 0));
        Check.same("none", x.tenant(0, 5), 0);
        Check.same("forty", x.tenant(1, 5), 40);
    }

    @Says("PAID (stairs that count, 0 at first), DEBT (0 at first).")
    private static void paidAtFirst() {
        SoManyStairs x = pair();
        Check.same("paid", x.tenant(0, 6), 0);
        Check.same("debt", x.tenant(0, 7), 0);
        x.climb(1, 6, -1, 0);
        Check.weeks(x, 4);
        Check.feed(x, Check.tenant("a", 1, 1, 1, 1) + Check.tenant("b", 1, 1, 1, 1));
        x.house();
        for (int t = 0; t < 2; t++) {
            Check.same("paid in a new house", x.tenant(t, 6), 0);
            Check.same("debt in a new house", x.tenant(t, 7), 0);
        }
    }

    // ---- What a CLIMB takes and COUNTS

    @Says("A CLIMB of a TENANT by so many storeys (1 .. all)")
    private static void oneToAllStoreys() {
        for (int all : new int[] {1, 9, 20}) {
            SoManyStairs x = Check.told("storeys " + all + ";" + Check.tenant("a", 1, 40, 0, 0));
            Check.same("none", x.climb(0, 0, -1, 0), -1);
            Check.same("one more than all", x.climb(0, all + 1, -1, 0), -1);
            Check.same("one", x.climb(0, 1, -1, 0), 10);
            Check.same("all", x.climb(0, all, -1, 0), 10 * all);
        }
    }

    @Says("by day (0) or by night (1)")
    private static void byDayOrByNight() {
        SoManyStairs x = Check.told(Check.tenant("a", 1, 40, 0, 0) + "counts 5+night;");
        Check.same("by day", x.climb(0, 1, -1, 0), 5);
        Check.same("by night", x.climb(0, 1, -1, 1), 6);
        Check.same("neither", x.climb(0, 1, -1, 2), -1);
        Check.same("neither", x.climb(0, 1, -1, -1), -1);
        Check.same("it may count nothing", Check.told(Check.tenant("a", 1, 40, 0, 0) + "counts not night;").climb(0, 1, -1, 1), 0);
    }

    @Says("for each storey one more for each 3 that the carried one is heavy (cut).")
    private static void breathForACarriedOne() {
        int[] due = {3, 3, 3, 6, 6, 6, 9, 9, 9, 12};
        for (int heavy = 0; heavy <= 9; heavy++) {
            SoManyStairs x = Check.told(Check.tenant("a", 1, 40, 9, 0) + Check.tenant("b", 1, 0, heavy, 0));
            Check.same("heavy " + heavy, x.worth(0, 3, 1, 0, 1), due[heavy]);
            x.climb(0, 3, 1, 0);
            Check.same("breath left", x.tenant(0, 5), 40 - due[heavy]);
            Check.same("alone", x.worth(0, 3, -1, 0, 1), 3);
        }
    }

    @Says("(10 times storeys, if it is not told)")
    private static void countsNotTold() {
        SoManyStairs x = Check.told("storeys 20 lift 20;" + Check.tenant("a", 1, 40, 0, 0) + Check.tenant("b", 1, 0, 2, 0));
        for (int storeys = 1; storeys <= 20; storeys++) {
            Check.same("storeys " + storeys, x.worth(0, storeys, -1, 0, 0), 10 * storeys);
            Check.same("with b, by night", x.worth(0, storeys, 1, 1, 0), 10 * storeys);
        }
    }

    @Says("heavy (the carried one's, 0 alone)")
    private static void heavyOfTheCarriedOne() {
        SoManyStairs x = Check.told(Check.tenant("a", 1, 40, 9, 0) + Check.tenant("b", 1, 0, 8, 0) + Check.tenant("c", 1, 0, 0, 0)
                + "counts 100+heavy;");
        Check.same("alone", x.climb(0, 1, -1, 0), 100);
        Check.same("with b", x.climb(0, 1, 1, 0), 108);
        Check.same("with c", x.climb(0, 1, 2, 0), 100);
    }

    @Says("week (0 at first)")
    private static void weekAtFirst() {
        SoManyStairs x = Check.told(Check.tenant("a", 1, 40, 9, 0) + "counts 100+week;");
        Check.same("week 0", x.climb(0, 1, -1, 0), 100);
        x.week();
        Check.same("week 1", x.climb(0, 1, -1, 0), 101);
    }

    @Says("climbed (storeys climbed by all this week ahead of it)")
    private static void climbedAheadOfIt() {
        SoManyStairs x = Check.told(Check.tenant("a", 1, 40, 9, 0) + Check.tenant("b", 1, 40, 9, 0) + "counts 100+climbed;");
        Check.same("nothing", x.climb(0, 9, -1, 0), 100);
        Check.same("nine", x.climb(1, 2, -1, 0), 109);
        // With somebody carried the storeys count once.
        Check.same("eleven", x.climb(1, 2, 0, 0), 111);
        Check.same("thirteen", x.worth(0, 1, -1, 0, 0), 113);
        x.week();
        Check.same("another week", x.climb(0, 1, -1, 0), 100);
    }

    @Says("lift (where it is;")
    private static void liftWhereItIs() {
        SoManyStairs x = Check.told("storeys 9 lift 8;" + Check.tenant("a", 1, 40, 9, 0) + "counts 100+lift;moves 3;");
        Check.same("at 8", x.climb(0, 1, -1, 0), 108);
        x.week();
        Check.same("at 9", x.climb(0, 1, -1, 0), 109);
    }

    @Says("ints, wrapping;")
    private static void intsWrap() {
        value(LEAST_INT, MIN);
        value(LEAST_INT + "-1", MAX);
        value("(" + LEAST_INT + "-1)+1", MIN);
        value("0-" + LEAST_INT, MIN);
        value("9999*9999*9999", (int) (9999L * 9999 * 9999));
        value("9999*9999*9999*9999", (int) (9999L * 9999 * 9999 * 9999));
        value("(9999*9999)*(9999*9999)", (int) (9999L * 9999 * 9999 * 9999));
        value(LEAST_INT + "/(0-1)", MIN);
        value(LEAST_INT + "%(0-1)", 0);
        value(LEAST_INT + "-1<0", 0);
        value(LEAST_INT + "<0", 1);
    }

    @Says("/ cut, % its rest,")
    private static void cutAndRest() {
        value("7/2", 3);
        value("(0-7)/2", -3);
        value("7/(0-2)", -3);
        value("(0-7)/(0-2)", 3);
        value("1/2", 0);
        value("7%2", 1);
        value("(0-7)%2", -1);
        value("7%(0-2)", 1);
        value("(0-7)%(0-2)", -1);
        value("6%3", 0);
    }

    @Says("both by 0: 0;")
    private static void byZero() {
        value("7/0", 0);
        value("7%0", 0);
        value("0/0+5", 5);
        value("0%0+5", 5);
        value("7/(3-3)", 0);
        value(LEAST_INT + "/0", 0);
        value(LEAST_INT + "%0", 0);
    }

    @Says("relations, and, or, not are 1 or 0, of what is not 0)")
    private static void oneOrZero() {
        int[][] due = {{2, 3, 1, 0, 0}, {3, 3, 0, 0, 1}, {4, 3, 0, 1, 0}};
        for (int[] d : due) {
            value(d[0] + "<" + d[1], d[2]);
            value(d[0] + ">" + d[1], d[3]);
            value(d[0] + "=" + d[1], d[4]);
        }
        value("0-1<0", 1);
        value("5 and 7", 1);
        value("5 and 0", 0);
        value("0 and 5", 0);
        value("(0-1) and (0-2)", 1);
        value("0 or 7", 1);
        value("7 or 0", 1);
        value("7 or 5", 1);
        value("0 or 0", 0);
        value("0 or 0-1", 1);
        value("not 0", 1);
        value("not 7", 0);
        value("not (0-1)", 0);
        value("not " + LEAST_INT, 0);
        value(LEAST_INT + " and 1", 1);
    }

    @Says("0 at least, 999 at most.")
    private static void countsWithinBounds() {
        counts("0-1", 0);
        counts("0", 0);
        counts("1", 1);
        counts("998", 998);
        counts("999", 999);
        counts("1000", 999);
        counts("9999", 999);
        counts(LEAST_INT, 0);
        counts(LEAST_INT + "-1", 999);
        // What is paid is by what counts, not by what the formula says.
        SoManyStairs x = Check.told(Check.tenant("a", 1, 9, 0, 0) + "counts 1000-climbed*2000;");
        x.climb(0, 1, -1, 0);
        Check.same("paid", x.tenant(0, 6), 999);
        Check.same("below 0", x.climb(0, 1, -1, 0), 0);
        Check.same("paid still", x.tenant(0, 6), 999);
    }

    // ---- ACTS

    @Says("a CLIMB, for which he has BREATH enough:")
    private static void breathEnough() {
        SoManyStairs x = Check.told(Check.tenant("a", 1, 8, 0, 0) + Check.tenant("b", 1, 0, 3, 0));
        Check.same("nine of eight", x.climb(0, 9, -1, 0), -1);
        Check.same("ten of eight", x.climb(0, 5, 1, 0), -1);
        Check.same("eight of eight", x.climb(0, 4, 1, 0), 40);
        Check.same("one of none", x.climb(0, 1, -1, 0), -1);
        x.undo();
        Check.same("eight of eight alone", x.climb(0, 8, -1, 0), 80);
        Check.same("who carries nothing needs no breath to be carried", x.tenant(1, 5), 0);
    }

    private static SoManyStairs drawn(int draw, int fails) {
        return Check.told("draw " + draw + ";tenant a on 1 strong 40 heavy 0 owes 0 fails " + fails + ";");
    }

    @Says("the SEED (draw, at first)")
    private static void seedAtFirst() {
        for (int draw : new int[] {0, 1, 999}) {
            Check.same("draw " + draw, drawn(draw, 0).about(5), draw);
        }
    }

    @Says("becomes its 137-fold and 71 more, modulo 1,000;")
    private static void seedGoesOn() {
        int[][] due = {{0, 71}, {7, 30}, {13, 852}, {500, 571}, {999, 934}, {313, 952}};
        for (int[] d : due) {
            for (int fails : new int[] {0, 50, 100}) {
                SoManyStairs x = drawn(d[0], fails);
                x.climb(0, 1, -1, 0);
                Check.same("behind " + d[0], x.about(5), d[1]);
            }
        }
        SoManyStairs x = drawn(0, 0);
        int[] row = {71, 798, 397, 460, 91};
        for (int seed : row) {
            x.climb(0, 1, -1, 0);
            Check.same("seed by seed", x.about(5), seed);
        }
        x.week();
        Check.same("a week draws nothing", x.about(5), 91);
    }

    @Says("if its rest by 100 is less than he fails, it COUNTS nothing;")
    private static void failsByItsRest() {
        // 0 becomes 71, 13 becomes 852, 17 becomes 400, 44 becomes 99.
        int[][] due = {{0, 71, 10}, {0, 72, 0}, {0, 70, 10}, {13, 52, 10}, {13, 53, 0}, {17, 0, 10}, {17, 1, 0}, {44, 99, 10},
            {44, 100, 0}};
        for (int[] d : due) {
            SoManyStairs x = drawn(d[0], d[1]);
            Check.same("draw " + d[0] + " fails " + d[1], x.climb(0, 1, -1, 0), d[2]);
            Check.same("paid", x.tenant(0, 6), d[2]);
        }
    }

    @Says("else he has PAID so much more (9,999 at most);")
    private static void paidAtMost() {
        SoManyStairs x = Check.told(Check.tenant("a", 1, 40, 0, 0) + "counts 999-(climbed=9)*990;");
        for (int i = 1; i <= 9; i++) {
            Check.same("counts", x.climb(0, 1, -1, 0), 999);
            Check.same("paid", x.tenant(0, 6), 999 * i);
        }
        Check.same("nine more", x.climb(0, 1, -1, 0), 9);
        Check.same("nine times 999 and 9", x.tenant(0, 6), 9000);
        Check.same("999 more", x.climb(0, 1, -1, 0), 999);
        Check.same("just as much", x.tenant(0, 6), 9999);
        Check.same("it counts all the same", x.climb(0, 1, -1, 0), 999);
        Check.same("no more is paid", x.tenant(0, 6), 9999);
        SoManyStairs y = Check.told(Check.tenant("a", 1, 40, 0, 0) + "counts 999;");
        for (int i = 0; i < 11; i++) {
            y.climb(0, 1, -1, 0);
        }
        Check.same("9990 and 999", y.tenant(0, 6), 9999);
    }

    @Says("BREATH is less by what it takes, storeys are climbed, whatever came.")
    private static void whateverCame() {
        SoManyStairs x = Check.told("tenant a on 1 strong 40 heavy 0 owes 0 fails 100;tenant b on 1 strong 0 heavy 7 owes 0;");
        Check.same("fails", x.climb(0, 4, 1, 0), 0);
        Check.same("three for each storey", x.tenant(0, 5), 28);
        Check.same("of the carried one nothing", x.tenant(1, 5), 0);
        Check.same("climbed", x.about(3), 4);
        Check.same("fails", x.climb(0, 9, -1, 1), 0);
        Check.same("one for each storey", x.tenant(0, 5), 19);
        Check.same("climbed", x.about(3), 13);
        Check.same("nothing paid", x.tenant(0, 6), 0);
        SoManyStairs y = Check.told(Check.tenant("a", 1, 40, 0, 0) + "counts 0;");
        Check.same("it counts nothing", y.climb(0, 4, -1, 0), 0);
        Check.same("but takes breath", y.tenant(0, 5), 36);
        Check.same("and is climbed", y.about(3), 4);
    }

    @Says("One gives another one stairs of those he has PAID.")
    private static void givenOfThosePaid() {
        SoManyStairs x = pair();
        x.climb(1, 6, -1, 0);
        Check.same("given", x.give(1, 0, 25), 25);
        Check.same("they are his no more", x.tenant(1, 6), 35);
        Check.same("debts, breath, seed stay", x.tenant(1, 5) + x.tenant(0, 7) + x.about(5), 0 + 0 + 304);
        Check.same("given ones can be given on", x.give(0, 1, 25), 60);
    }

    @Says("(climbed by 10, if it is not told)")
    private static void movesNotTold() {
        SoManyStairs x = Check.told("storeys 20;" + Check.tenant("a", 1, 40, 0, 0));
        int[][] due = {{0, 0, 0}, {9, 0, 0}, {10, 0, 1}, {10, 9, 2}, {10, 10, 4}, {20, 20, 8}};
        for (int[] d : due) {
            x.climb(0, d[0], -1, 0);
            x.climb(0, d[1], -1, 0);
            Check.same(d[0] + " and " + d[1], x.week(), d[2]);
        }
    }

    @Says("by storeys (all), heavy (of all TENANTS together), night 0, week, climbed, lift,")
    private static void movesByWhat() {
        StringBuilder eight = new StringBuilder("storeys 20;moves heavy;");
        for (int i = 0; i < 8; i++) {
            eight.append(Check.tenant("" + (char) ('a' + i), 1, 1, 9, 0));
        }
        Check.same("eight by nine", Check.told(eight.toString()).pull(), 72);
        Check.same("nobody", Check.told("moves heavy;").pull(), 0);
        SoManyStairs x = Check.told("storeys 20 lift 3;" + Check.tenant("a", 1, 40, 4, 0) + Check.tenant("b", 1, 1, 3, 0)
                + "moves storeys*100+heavy*10+lift+night*9999;");
        x.climb(0, 2, 1, 1);
        Check.same("whoever was carried, at night", x.pull(), 2073);
        SoManyStairs y = Check.told("storeys 20 lift 3;" + Check.tenant("a", 1, 40, 4, 0) + "moves week*2+climbed-lift;");
        y.climb(0, 9, -1, 0);
        Check.same("3 and 0 and 9 and -3", y.week(), 9);
        Check.same("9 and 2 and 0 and -9", y.week(), 2);
        Check.same("2 and 4 and 0 and -2", y.week(), 4);
    }

    private static void oneWeek(int lift, String moves, int due) {
        SoManyStairs x = Check.told("storeys 9 lift " + lift + ";moves " + moves + ";");
        Check.same("from " + lift + " by " + moves, x.week(), due);
        Check.same("about the lift", x.about(2), due);
    }

    @Says("upwards, downwards if that is below 0")
    private static void upwardsOrDownwards() {
        oneWeek(4, "0", 4);
        oneWeek(4, "1", 5);
        oneWeek(4, "0-1", 3);
        oneWeek(4, "3", 7);
        oneWeek(4, "0-3", 1);
    }

    @Says("(the sum wraps, too)")
    private static void theSumWraps() {
        oneWeek(0, LEAST_INT + "-1", 9);
        oneWeek(1, LEAST_INT + "-1", 0);
        oneWeek(9, LEAST_INT + "-1", 0);
        oneWeek(9, LEAST_INT + "-9", 0);
        oneWeek(8, LEAST_INT + "-9", 9);
        oneWeek(9, LEAST_INT + "-10", 9);
        oneWeek(9, LEAST_INT, 0);
        oneWeek(0, LEAST_INT, 0);
    }

    @Says("0 at least, all storeys at most;")
    private static void liftWithinBounds() {
        oneWeek(4, "5", 9);
        oneWeek(4, "6", 9);
        oneWeek(4, "9999", 9);
        oneWeek(9, "1", 9);
        oneWeek(4, "0-4", 0);
        oneWeek(4, "0-5", 0);
        oneWeek(0, "0-1", 0);
        Check.same("twenty", Check.told("storeys 20 lift 19;moves 5;").week(), 20);
        Check.same("one", Check.told("storeys 1;moves 5;").week(), 1);
    }

    @Says("nothing is climbed, all have BREATH as at first;")
    private static void breathAnew() {
        SoManyStairs x = pair();
        x.climb(0, 6, -1, 0);
        x.climb(1, 6, -1, 0);
        Check.same("twelve climbed", x.about(3), 12);
        x.week();
        Check.same("nothing climbed", x.about(3), 0);
        Check.same("breath of a", x.tenant(0, 5), 12);
        Check.same("breath of b", x.tenant(1, 5), 6);
        Check.same("paid stays", x.tenant(1, 6), 60);
    }

    @Says("the week goes up by 1;")
    private static void weekGoesUp() {
        SoManyStairs x = pair();
        for (int week = 0; week < 6; week++) {
            Check.same("week", x.about(4), week);
            x.week();
        }
    }

    @Says("if it can be parted by 4 then, rents fall due:")
    private static void everyFourthWeek() {
        SoManyStairs x = Check.told(Check.tenant("a", 1, 1, 1, 100));
        for (int week = 0; week <= 17; week++) {
            Check.same("debt in week " + week, x.tenant(0, 7), week / 4 * 100);
            x.week();
        }
    }

    @Says("each TENANT's DEBT is more by what he owes, then PAID is less by as much as it pays of DEBT.")
    private static void debtThenPaid() {
        SoManyStairs x = Check.told(Check.tenant("a", 1, 40, 0, 100) + Check.tenant("b", 1, 40, 0, 10) + Check.tenant("c", 1, 40, 0, 50)
                + Check.tenant("d", 1, 40, 0, 0));
        x.climb(0, 6, -1, 0);
        x.climb(1, 4, -1, 0);
        x.climb(2, 5, -1, 0);
        x.climb(3, 2, -1, 0);
        Check.weeks(x, 3);
        rents(x, new int[] {60, 40, 50, 20}, new int[] {0, 0, 0, 0});
        x.week();
        rents(x, new int[] {0, 30, 0, 20}, new int[] {40, 0, 0, 0});
        Check.weeks(x, 4);
        rents(x, new int[] {0, 20, 0, 20}, new int[] {140, 0, 50, 0});
        x.climb(0, 9, -1, 0);
        x.climb(0, 9, -1, 0);
        x.climb(2, 9, -1, 0);
        x.climb(2, 1, -1, 0);
        // What is paid lies till rents fall due; then DEBT and what is owed are paid of it, just all of c's.
        Check.weeks(x, 3);
        rents(x, new int[] {180, 20, 100, 20}, new int[] {140, 0, 50, 0});
        x.week();
        rents(x, new int[] {0, 10, 0, 20}, new int[] {60, 0, 0, 0});
    }

    private static void rents(SoManyStairs x, int[] paid, int[] debt) {
        for (int t = 0; t < paid.length; t++) {
            Check.same("week " + x.about(4) + ", paid of " + t, x.tenant(t, 6), paid[t]);
            Check.same("week " + x.about(4) + ", debt of " + t, x.tenant(t, 7), debt[t]);
        }
    }

    @Says("UNDO takes back the latest ACT that was not,")
    private static void undoTakesBack() {
        SoManyStairs x = moving();
        int[][] states = new int[6][];
        x.image(0);
        x.chalk(1, true);
        states[0] = stateOfActs(x);
        x.climb(0, 2, 1, 1);
        states[1] = stateOfActs(x);
        x.climb(1, 3, -1, 0);
        states[2] = stateOfActs(x);
        x.give(1, 0, 7);
        states[3] = stateOfActs(x);
        x.week();
        states[4] = stateOfActs(x);
        Check.weeks(x, 3);
        for (int i = 0; i < 3; i++) {
            x.undo();
        }
        for (int i = 4; i > 0; i--) {
            sameActs("ahead of act " + i, states[i], x);
            Check.is("undo", x.undo());
        }
        sameActs("at first", states[0], x);
        Check.same("chalk is no act", x.about(8), 1);
        for (int i = 1; i < 5; i++) {
            Check.is("redo", x.redo());
            sameActs("behind act " + i, states[i], x);
        }
    }

    /** That which ACTS change, but for how many of them are kept. */
    private static int[] stateOfActs(SoManyStairs x) {
        int[] state = Check.state(x);
        state[6] = 0;
        state[7] = 0;
        return state;
    }

    private static void sameActs(String what, int[] due, SoManyStairs x) {
        int[] state = stateOfActs(x);
        for (int i = 0; i < due.length; i++) {
            Check.same(what + ": number " + i, state[i], due[i]);
        }
    }

    @Says("REDO does that again which was taken back last (till another ACT);")
    private static void tillAnotherAct() {
        for (int act = 0; act < 7; act++) {
            SoManyStairs x = pair();
            x.climb(1, 3, -1, 0);
            x.week();
            x.week();
            x.undo();
            x.undo();
            Check.same("two were taken back", x.about(7), 2);
            switch (act) {
                case 0 -> Check.same("a climb", x.climb(1, 1, -1, 0), 10);
                case 1 -> Check.same("a gift", x.give(1, 0, 1), 1);
                case 2 -> Check.same("a week", x.week(), 2);
                case 3 -> Check.same("a climb that can't be", x.climb(1, 4, -1, 0), -1);
                case 4 -> Check.same("a gift that can't be", x.give(1, 0, 31), -1);
                case 5 -> Check.same("an image", x.image(0), 0);
                default -> Check.same("chalk", x.chalk(0, true), 0);
            }
            boolean another = act < 3;
            Check.same("left to redo", x.about(7), another ? 0 : 2);
            Check.same("redo", x.redo() ? 1 : 0, another ? 0 : 1);
            Check.same("the first week is done again", x.about(4), another && act != 2 ? 0 : 1);
        }
    }

    @Says("40 at most are kept, the oldest go.")
    private static void fortyAreKept() {
        for (int acts : new int[] {39, 40, 41, 79, 80, 81, 85}) {
            SoManyStairs x = pair();
            Check.weeks(x, acts);
            int kept = Math.min(40, acts);
            Check.same("kept of " + acts, x.about(6), kept);
            for (int i = 0; i < kept; i++) {
                Check.is("undo", x.undo());
            }
            Check.isNot("the oldest went", x.undo());
            Check.same("week", x.about(4), acts - kept);
            Check.same("to redo", x.about(7), kept);
            for (int i = 0; i < kept; i++) {
                Check.is("redo", x.redo());
            }
            Check.isNot("no more", x.redo());
            Check.same("week", x.about(4), acts);
            Check.same("debt", x.tenant(0, 7), acts / 4 * 100);
        }
        SoManyStairs y = pair();
        Check.weeks(y, 45);
        y.undo();
        y.undo();
        y.week();
        Check.same("two less, one more", y.about(6), 39);
        y.week();
        y.week();
        Check.same("forty again", y.about(6), 40);
        Check.same("week", y.about(4), 46);
    }

    // ---- Promises 6 to 12

    @Says(promise = 6, value = "Of a TENANT what 0: his storey, 1: strong, 2: heavy, 3: owes, 4: fails, "
            + "5: BREATH, 6: PAID, 7: DEBT, 8: LACK;")
    private static void tenantEachWhat() {
        SoManyStairs x = pair();
        x.climb(1, 5, -1, 0);
        x.climb(0, 4, -1, 0);
        Check.weeks(x, 4);
        x.climb(0, 1, -1, 0);
        x.climb(1, 2, -1, 0);
        // Seeds 304, 719, 574, ...: rests 4 (b never fails), 19 (a fails), 74, 9.
        int[][] due = {{5, 12, 7, 100, 30, 11, 10, 100, 190}, {0, 6, 2, 40, 0, 4, 30, 0, 10}};
        for (int t = 0; t < 2; t++) {
            for (int what = 0; what < 9; what++) {
                Check.same("tenant(" + t + ", " + what + ")", x.tenant(t, what), due[t][what]);
            }
        }
    }

    @Says(promise = 6, value = "NONE if there is none such,")
    private static void noSuchTenant() {
        SoManyStairs x = pair();
        for (int what = 0; what <= 8; what++) {
            for (int tenant : Check.NEVER) {
                Check.same("tenant(" + tenant + ", " + what + ")", x.tenant(tenant, what), -1);
            }
            Check.same("tenant(-1, " + what + ")", x.tenant(-1, what), -1);
            Check.same("tenant(2, " + what + ")", x.tenant(2, what), -1);
        }
        Check.same("tenant(7, 0)", x.tenant(7, 0), -1);
        Check.same("tenant(8, 0)", x.tenant(8, 0), -1);
    }

    @Says(promise = 6, value = "or for another what.")
    private static void tenantOfAnotherWhat() {
        SoManyStairs x = pair();
        for (int what : Check.NEVER) {
            Check.same("tenant(0, " + what + ")", x.tenant(0, what), -1);
        }
        Check.same("tenant(0, -1)", x.tenant(0, -1), -1);
        Check.same("tenant(0, 9)", x.tenant(0, 9), -1);
    }

    @Says(promise = 7, value = "What a CLIMB would COUNT (carried: NONE for alone), what 0; what BREATH it takes, 1;")
    private static void worthOfEachWhat() {
        SoManyStairs x = pair();
        Check.same("alone", x.worth(0, 6, -1, 0, 0), 60);
        Check.same("breath alone", x.worth(0, 6, -1, 0, 1), 6);
        Check.same("a is heavy 7", x.worth(1, 2, 0, 1, 0), 20);
        Check.same("breath with a", x.worth(1, 2, 0, 1, 1), 6);
        // Fails or not, and what is paid already, is nothing to it; nothing is drawn.
        Check.same("who always fails", Check.told("tenant a on 1 strong 1 heavy 1 owes 1 fails 100;").worth(0, 1, -1, 0, 0), 10);
        Check.same("the seed", x.about(5), 9);
        Check.same("no act", x.about(6), 0);
    }

    @Says(promise = 7, value = "NONE if it can't be (he has not the BREATH,")
    private static void worthWithoutBreath() {
        SoManyStairs x = pair();
        for (int what = 0; what < 2; what++) {
            Check.same("three with a", x.worth(1, 3, 0, 0, what), -1);
        }
        x.climb(1, 4, -1, 0);
        for (int what = 0; what < 2; what++) {
            Check.same("three of two", x.worth(1, 3, -1, 0, what), -1);
            Check.is("two of two", x.worth(1, 2, -1, 0, what) > 0);
        }
    }

    @Says(promise = 7, value = "carries himself),")
    private static void worthOfCarryingHimself() {
        SoManyStairs x = pair();
        for (int what = 0; what < 2; what++) {
            Check.same("a", x.worth(0, 1, 0, 0, what), -1);
            Check.same("b", x.worth(1, 1, 1, 0, what), -1);
        }
    }

    @Says(promise = 7, value = "or one can't be.")
    private static void worthOfWhatCannotBe() {
        SoManyStairs x = pair();
        for (int never : Check.NEVER) {
            Check.same("tenant " + never, x.worth(never, 1, -1, 0, 0), -1);
            Check.same("storeys " + never, x.worth(0, never, -1, 0, 0), -1);
            Check.same("carried " + never, x.worth(0, 1, never, 0, 0), -1);
            Check.same("night " + never, x.worth(0, 1, -1, never, 0), -1);
            Check.same("what " + never, x.worth(0, 1, -1, 0, never), -1);
        }
        int[][] wrong = {{-1, 1, -1, 0, 0}, {2, 1, -1, 0, 0}, {0, 0, -1, 0, 0}, {0, 7, -1, 0, 0}, {0, -1, -1, 0, 0}, {0, 1, 2, 0, 0},
            {0, 1, -1, 2, 0}, {0, 1, -1, -1, 0}, {0, 1, -1, 0, 2}, {0, 1, -1, 0, -1}};
        for (int[] w : wrong) {
            Check.same("worth", x.worth(w[0], w[1], w[2], w[3], w[4]), -1);
        }
        Check.same("nobody there", new SoManyStairs().worth(0, 1, -1, 0, 0), -1);
    }

    @Says(promise = 8, value = "A CLIMB: what it COUNTS, 0 if it fails;")
    private static void climbAnswers() {
        SoManyStairs x = pair();
        Check.same("a fails by 304", x.climb(0, 2, -1, 0), 0);
        Check.same("b never fails", x.climb(1, 2, 0, 0), 20);
        Check.same("574 fails nobody", x.climb(0, 3, 1, 1), 30);
        Check.same("acts", x.about(6), 3);
    }

    @Says(promise = 8, value = "NONE, doing nothing, if it can't be. (An ACT.)")
    private static void climbThatCannotBe() {
        SoManyStairs x = pair();
        x.climb(1, 3, -1, 0);
        x.week();
        x.undo();
        int[] before = Check.state(x);
        for (int never : Check.NEVER) {
            Check.same("tenant " + never, x.climb(never, 1, -1, 0), -1);
            Check.same("storeys " + never, x.climb(0, never, -1, 0), -1);
            Check.same("carried " + never, x.climb(0, 1, never, 0), -1);
            Check.same("night " + never, x.climb(0, 1, -1, never), -1);
        }
        int[][] wrong = {{-1, 1, -1, 0}, {2, 1, -1, 0}, {0, 0, -1, 0}, {0, 7, -1, 0}, {0, -1, -1, 0}, {0, 1, 0, 0}, {0, 1, 2, 0},
            {0, 1, -2, 0}, {0, 1, -1, 2}, {0, 1, -1, -1}, {1, 4, -1, 0}, {1, 2, 0, 0}};
        for (int[] w : wrong) {
            Check.same("climb", x.climb(w[0], w[1], w[2], w[3]), -1);
        }
        Check.stays("behind climbs that can't be", x, before);
        Check.is("the week can be done again", x.redo());
    }

    @Says(promise = 9, value = "Stairs are given (1 .. those he has PAID): how many the other one has then;")
    private static void oneToAllThatArePaid() {
        SoManyStairs x = pair();
        x.climb(1, 6, -1, 0);
        Check.same("none", x.give(1, 0, 0), -1);
        Check.same("below 0", x.give(1, 0, -1), -1);
        Check.same("one", x.give(1, 0, 1), 1);
        Check.same("one too many", x.give(1, 0, 60), -1);
        Check.same("all", x.give(1, 0, 59), 60);
        Check.same("nothing is left", x.tenant(1, 6), 0);
        Check.same("one of none", x.give(1, 0, 1), -1);
        Check.same("some back", x.give(0, 1, 15), 15);
        Check.same("more", x.give(0, 1, 15), 30);
        Check.same("acts", x.about(6), 5);
    }

    @Says(promise = 9, value = "NONE, doing nothing, if both are one,")
    private static void nobodyGivesHimself() {
        SoManyStairs x = pair();
        x.climb(1, 6, -1, 0);
        int[] before = Check.state(x);
        Check.same("b to b", x.give(1, 1, 5), -1);
        Check.same("all of it", x.give(1, 1, 60), -1);
        Check.stays("behind it", x, before);
    }

    @Says(promise = 9, value = "it would be above 9,999,")
    private static void nobodyComesToHaveMore() {
        SoManyStairs x = Check.told(Check.tenant("a", 1, 40, 0, 0) + Check.tenant("b", 1, 40, 0, 0) + "counts 999;");
        for (int i = 0; i < 10; i++) {
            x.climb(0, 1, -1, 0);
        }
        x.climb(1, 1, -1, 0);
        int[] before = Check.state(x);
        Check.same("9990 and 10", x.give(1, 0, 10), -1);
        Check.same("9990 and 999", x.give(1, 0, 999), -1);
        Check.same("999 and 9990", x.give(0, 1, 9990), -1);
        Check.stays("behind them", x, before);
        Check.same("9990 and 9", x.give(1, 0, 9), 9999);
        Check.same("9999 and 1", x.give(1, 0, 1), -1);
        Check.same("990 and 9009", x.give(0, 1, 9009), 9999);
    }

    @Says(promise = 9, value = "or one can't be. (An ACT.)")
    private static void giftThatCannotBe() {
        SoManyStairs x = pair();
        x.climb(1, 6, -1, 0);
        x.week();
        x.undo();
        int[] before = Check.state(x);
        for (int never : Check.NEVER) {
            Check.same("by " + never, x.give(never, 0, 1), -1);
            Check.same("to " + never, x.give(1, never, 1), -1);
            if (never < 1 || never > 60) {
                Check.same("so many: " + never, x.give(1, 0, never), -1);
            }
        }
        int[][] wrong = {{-1, 0, 1}, {2, 0, 1}, {1, -1, 1}, {1, 2, 1}, {0, 1, 1}, {1, 0, 0}, {1, 0, -1}, {1, 0, 61}, {1, 0, MAX},
            {1, 0, MIN}};
        for (int[] w : wrong) {
            Check.same("give", x.give(w[0], w[1], w[2]), -1);
        }
        Check.stays("behind gifts that can't be", x, before);
        Check.same("a gift is an act", x.give(1, 0, 60), 60);
        Check.same("that can be undone", x.undo() ? x.tenant(1, 6) : -1, 60);
    }

    @Says(promise = 10, value = "A WEEK: where the lift is then;")
    private static void weekAnswers() {
        SoManyStairs x = Check.told("storeys 3 lift 1;moves 1;");
        int[] due = {2, 3, 3};
        for (int i = 0; i < 3; i++) {
            Check.same("week", x.week(), due[i]);
            Check.same("acts", x.about(6), i + 1);
        }
    }

    @Says(promise = 10, value = "NONE, doing nothing, behind 999 of them. (An ACT.)")
    private static void behind999Weeks() {
        // No 512 calls come so far, so this is asked beyond what is promised.
        SoManyStairs x = Check.told("storeys 3;moves 1;" + Check.tenant("a", 1, 1, 1, 1));
        for (int i = 1; i <= 999; i++) {
            Check.same("week", x.week(), Math.min(3, i));
        }
        x.climb(0, 1, -1, 0);
        x.undo();
        int[] before = Check.state(x);
        Check.same("one more", x.week(), -1);
        Check.stays("behind it", x, before);
        Check.same("the week", x.about(4), 999);
        x.undo();
        Check.same("998", x.about(4), 998);
        Check.same("again", x.week(), 3);
    }

    @Says(promise = 11, value = "UNDO: true; false if there is none.")
    private static void nothingToUndo() {
        SoManyStairs x = pair();
        int[] before = Check.state(x);
        Check.isNot("at first", x.undo());
        Check.stays("nothing is done", x, before);
        x.week();
        Check.is("one", x.undo());
        Check.isNot("no other", x.undo());
        Check.same("to redo still", x.about(7), 1);
        x.climb(0, 7, -1, 0);
        Check.isNot("what can't be is no act", x.undo());
    }

    @Says(promise = 12, value = "REDO: true; false if there is none.")
    private static void nothingToRedo() {
        SoManyStairs x = pair();
        int[] before = Check.state(x);
        Check.isNot("at first", x.redo());
        Check.stays("nothing is done", x, before);
        x.week();
        Check.isNot("nothing was taken back", x.redo());
        x.undo();
        Check.is("one", x.redo());
        Check.isNot("no other", x.redo());
        Check.same("to undo still", x.about(6), 1);
        Check.same("week", x.about(4), 1);
    }

    // ---- Promises 48 and 49

    @Says(promise = 48, value = "BREATH, PAID, DEBT, climbed, lift, week, SEED are kept in a BOX 0 .. 2: the week;")
    private static void threeBoxes() {
        SoManyStairs x = moving();
        int[][] states = new int[3][];
        for (int box = 0; box < 3; box++) {
            Check.same("image(" + box + ")", x.image(box), 5 * box);
            states[box] = stateOfActs(x);
            Check.weeks(x, 5);
            for (int i = 0; i <= box; i++) {
                x.climb(0, 2 + i, -1, 0);
                x.climb(1, 1, 0, 0);
            }
        }
        for (int box : new int[] {2, 0, 1, 0}) {
            Check.same("back(" + box + ")", x.back(box), 5 * box);
            sameActs("box " + box, states[box], x);
        }
        x.week();
        Check.same("another one over it", x.image(1), 1);
        x.week();
        Check.same("the later one", x.back(1), 1);
        Check.same("an image is no act", x.about(6), 0);
    }

    @Says(promise = 48, value = "NONE if there is none such.")
    private static void noSuchBox() {
        SoManyStairs x = pair();
        for (int never : Check.NEVER) {
            Check.same("image(" + never + ")", x.image(never), -1);
        }
        Check.same("image(-1)", x.image(-1), -1);
        Check.same("image(3)", x.image(3), -1);
        for (int box = 0; box < 3; box++) {
            Check.same("nothing was kept", x.back(box), -1);
        }
    }

    @Says(promise = 49, value = "All is as it was kept")
    private static void allIsAsItWasKept() {
        SoManyStairs x = moving();
        x.climb(1, 3, -1, 0);
        Check.weeks(x, 4);
        x.climb(0, 5, -1, 0);
        x.climb(1, 6, 0, 0);
        x.climb(1, 4, -1, 0);
        x.image(1);
        int[] kept = stateOfActs(x);
        Check.weeks(x, 4);
        x.climb(0, 6, -1, 0);
        x.back(1);
        sameActs("back", kept, x);
        // What is no such thing is as it is now.
        x.chalk(2, true);
        x.later(3);
        x.let();
        x.feed(0, 0, 0, 0, 0);
        Check.same("once more", x.back(1), 4);
        Check.same("chalk", x.about(8), 1);
        Check.same("time", x.about(9), 3);
        Check.same("tape", x.about(10), 20);
        Check.same("lies", x.about(12), 2);
    }

    @Says(promise = 49, value = "(no ACTS are kept then): the week;")
    private static void noActsBehindBack() {
        SoManyStairs x = pair();
        Check.weeks(x, 2);
        x.image(0);
        x.week();
        x.week();
        x.undo();
        Check.same("the week", x.back(0), 2);
        Check.same("to undo", x.about(6), 0);
        Check.same("to redo", x.about(7), 0);
        Check.isNot("undo", x.undo());
        Check.isNot("redo", x.redo());
        x.week();
        Check.is("undo what came then", x.undo());
        Check.same("to what was kept", x.about(4), 2);
        Check.isNot("no further", x.undo());
    }

    @Says(promise = 49, value = "NONE, doing nothing, if nothing was.")
    private static void backToNothing() {
        SoManyStairs x = pair();
        x.climb(1, 3, -1, 0);
        x.week();
        x.undo();
        x.image(1);
        int[] before = Check.state(x);
        for (int never : Check.NEVER) {
            Check.same("back(" + never + ")", x.back(never), -1);
        }
        for (int box : new int[] {-1, 0, 2, 3}) {
            Check.same("back(" + box + ")", x.back(box), -1);
        }
        Check.stays("behind them", x, before);
    }
}
