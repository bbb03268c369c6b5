/** The clauses of the document that name no boundary case: what is meant by its words, plainly. */
final class PlainCases {
    private PlainCases() {
    }

    private static String ten(String name, int on, int strong, int heavy, int owes) {
        return Check.tenant(name, on, strong, heavy, owes);
    }

    // ---- 2: CLIMBS and ACTS

    @Says("with one he carries or alone,")
    private static void carriedOrAlone() {
        SoManyStairs x = Check.told(ten("a", 1, 20, 0, 0) + ten("b", 1, 20, 6, 0) + "counts storeys+heavy*10;");
        Check.same("alone", x.climb(0, 2, -1, 0), 2);
        Check.same("with b", x.climb(0, 2, 1, 0), 62);
        Check.same("nothing is paid to b", x.tenant(1, 6), 0);
        Check.same("b keeps his breath", x.tenant(1, 5), 20);
    }

    @Says("takes so much BREATH, and for each storey one more")
    private static void takesBreath() {
        SoManyStairs x = Check.told(ten("a", 1, 20, 0, 0) + ten("b", 1, 20, 9, 0));
        Check.same("three storeys alone", x.worth(0, 3, -1, 0, 1), 3);
        Check.same("three storeys with b", x.worth(0, 3, 1, 0, 1), 12);
        x.climb(0, 3, -1, 1);
        Check.same("of 20", x.tenant(0, 5), 17);
        x.climb(0, 3, 1, 0);
        Check.same("of 17", x.tenant(0, 5), 5);
    }

    @Says("It COUNTS what comes of counts")
    private static void countsAsTold() {
        SoManyStairs x = Check.told(ten("a", 1, 20, 0, 0) + "counts 7*storeys-2;moves 0;");
        Check.same("by 1", x.worth(0, 1, -1, 0, 0), 5);
        Check.same("by 4", x.climb(0, 4, -1, 0), 26);
        Check.same("paid", x.tenant(0, 6), 26);
    }

    @Says("by storeys (so many),")
    private static void storeysClimbed() {
        SoManyStairs x = Check.told("storeys 20;" + ten("a", 5, 20, 0, 0) + "counts storeys*storeys;");
        for (int by = 1; by <= 20; by++) {
            Check.same("by " + by, x.worth(0, by, -1, 0, 0), by * by);
        }
    }

    @Says("heavy (the carried one's, 0 alone), night, week (0 at first),")
    private static void nightIsZeroOrOne() {
        SoManyStairs x = Check.told(ten("a", 1, 20, 0, 0) + "counts 5+night*3;");
        Check.same("by day", x.climb(0, 1, -1, 0), 5);
        Check.same("by night", x.climb(0, 1, -1, 1), 8);
        Check.same("paid", x.tenant(0, 6), 13);
    }

    @Says("ACTS: a CLIMB, for which he has BREATH enough:")
    private static void actsAreThree() {
        SoManyStairs x = Check.told(ten("a", 1, 20, 0, 50) + ten("b", 1, 20, 0, 50));
        Check.same("none", x.about(6), 0);
        x.climb(0, 2, -1, 0);
        Check.same("a climb", x.about(6), 1);
        x.give(0, 1, 5);
        Check.same("a gift", x.about(6), 2);
        x.week();
        Check.same("a week", x.about(6), 3);
        x.chalk(1, true);
        x.tread(1, true);
        x.untell(0);
        x.later(4);
        x.image(0);
        x.feed(1, 2, 3, 4, 5);
        x.end(3);
        Check.same("no others", x.about(6), 3);
        Check.is("the week", x.undo());
        Check.same("what is told of the widow stays", x.about(8), 2);
        Check.same("the time stays", x.about(9), 4);
        Check.isNot("mark 0 stays untold", x.untell(0));
        Check.same("the tape stays", x.about(10), 3);
    }

    @Says("A WEEK: the lift goes by what comes of moves")
    private static void liftGoesAsTold() {
        SoManyStairs x = Check.told("storeys 20 lift 4;" + ten("a", 1, 20, 0, 0) + "moves 2*climbed-3;counts 0;");
        x.climb(0, 4, -1, 0);
        Check.same("five up", x.week(), 9);
        Check.same("three down", x.week(), 6);
        x.climb(0, 1, -1, 0);
        Check.same("one down", x.week(), 5);
    }

    // ---- 3: what is asked

    @Says("FEWEST of a TENANT: by how many CLIMBS of his this week, alone, by day")
    private static void fewestAloneByDay() {
        // By night, with somebody, in another week or by another one it would be less.
        SoManyStairs x = Check.told(ten("a", 1, 20, 0, 50) + ten("b", 1, 40, 9, 0)
                + "counts storeys*5+night*900+heavy*900+(week>0)*900;");
        Check.same("ten storeys in two", x.fewest(0), 2);
        Check.lies("the first row", x, 1, 9);
        x.climb(0, 6, -1, 0);
        Check.same("four storeys in one", x.fewest(0), 1);
        Check.lies("by four", x, 4);
        x.week();
        Check.same("in the next week", x.fewest(0), 1);
        Check.lies("by one", x, 1);
    }

    @Says("CARE: each TENANT whose storey is above 0 is to be carried up there from the ground by another one,")
    private static void eachIsCarriedHome() {
        SoManyStairs x = Check.told(ten("a", 4, 4, 2, 0) + ten("b", 3, 8, 3, 0));
        Check.same("each by the other one", x.care(), 1);
        Check.lies("a by b, for three storeys with b take six", x, 1, -1);
        SoManyStairs y = Check.told(ten("a", 4, 6, 2, 0) + ten("b", 3, 8, 3, 0));
        Check.same("six are enough", y.care(), 2);
        Check.lies("a by b, b by a", y, 1, 0);
    }

    @Says(promise = 15, value = "CARE: how many.")
    private static void careTellsHowMany() {
        Check.same("nobody", new SoManyStairs().care(), 0);
        String text = "";
        for (int n = 1; n <= 8; n++) {
            text += ten("" + (char) ('a' + n), 1, 2, 0, 0);
            Check.same(n + " of them", Check.told(text).care(), n == 1 ? 0 : n);
        }
    }

    @Says("GIFTS: as long as somebody has PAID more than he owes and his DEBT, and somebody has a LACK,")
    private static void giftsTillOneIsNot() {
        SoManyStairs x = Check.told(ten("a", 1, 40, 0, 20) + ten("b", 1, 40, 0, 30) + ten("c", 1, 40, 0, 15));
        Check.same("nobody has more", x.gifts(0), 0);
        x.climb(0, 9, -1, 0);
        Check.same("70 more: to b, to c", x.gifts(0), 2);
        Check.same("30 and 15", x.gifts(1), 45);
        Check.same("all is settled", x.gifts(2), 0);
    }

    @Says(": how many times, how much in all.")
    private static void timesAndStairs() {
        SoManyStairs x = Check.told(ten("a", 1, 40, 0, 100) + ten("b", 1, 40, 0, 10) + ten("c", 1, 40, 0, 20) + ten("d", 1, 40, 0, 5));
        x.climb(1, 3, -1, 0);
        x.climb(2, 5, -1, 0);
        // b has 20 more, c has 30 more: a gets both, and d nothing.
        Check.same("times", x.gifts(0), 2);
        Check.same("stairs", x.gifts(1), 50);
        Check.same("50 of a, 5 of d", x.gifts(2), 55);
    }

    @Says("LET: who lives where is told anew")
    private static void letAnew() {
        SoManyStairs x = Check.told(ten("a", 1, 0, 0, 90) + ten("b", 2, 0, 0, 60) + ten("c", 3, 0, 0, 120));
        // As they live, 120, 120 and 210; anew, who owes most lives lowest: 150 each.
        Check.same("as they live", x.spread(), 90);
        Check.same("anew", x.let(), 0);
        Check.lies("a on 2, b on 3, c on 1", x, 2, 3, 1);
        Check.same("nothing is done", x.spread(), 90);
    }

    @Says("so that rents, by what it takes a month to climb home once a day (30 times his storey) and what he owes, "
            + "are as even as can be:")
    private static void asEvenAsCanBe() {
        Draws draws = new Draws(11);
        for (int round = 0; round < 60; round++) {
            int n = 1 + draws.below(5);
            int[] on = new int[n];
            int[] owes = new int[n];
            String text = "storeys 20;";
            for (int t = 0; t < n; t++) {
                on[t] = draws.below(6);
                owes[t] = 10 * draws.below(20);
                text += ten("" + (char) ('a' + t), on[t], 0, 0, owes[t]);
            }
            Check.same("let() of " + text, Check.told(text).let(), leastOf(on, owes, new int[n], 0, 0));
        }
    }

    /** The least difference over all exchanges, one tenant after the other. */
    private static int leastOf(int[] on, int[] owes, int[] costs, int tenant, int taken) {
        int least = Integer.MAX_VALUE;
        if (tenant == on.length) {
            int low = Integer.MAX_VALUE;
            int high = 0;
            for (int cost : costs) {
                low = Math.min(low, cost);
                high = Math.max(high, cost);
            }
            return high - low;
        }
        for (int place = 0; place < on.length; place++) {
            if ((taken >> place & 1) == 0) {
                costs[tenant] = 30 * on[place] + owes[tenant];
                least = Math.min(least, leastOf(on, owes, costs, tenant + 1, taken | 1 << place));
            }
        }
        return least;
    }

    @Says("REST of the lift: behind how many WEEKS (nobody climbing any more) a WEEK first leaves it where it is.")
    private static void restOfTheLift() {
        SoManyStairs x = Check.told("storeys 9 lift 5;" + ten("a", 1, 20, 0, 0) + "moves climbed-1;");
        x.climb(0, 3, -1, 0);
        // Up by two, then down by one seven times.
        Check.same("at the ground", x.rest(), 8);
        x.climb(0, 3, -1, 0);
        Check.same("up to the top", x.rest(), 10);
        Check.same("on the ground", Check.told("moves climbed-1;").rest(), 0);
    }

    @Says("WILL: where the lift is behind n WEEKS.")
    private static void willAsWeeksDo() {
        String text = "storeys 20 lift 3;" + ten("a", 1, 20, 0, 0) + "moves climbed+week%3*2-1;";
        SoManyStairs x = Check.told(text);
        x.climb(0, 5, -1, 0);
        int[] due = {3, 7, 8, 11, 10, 11, 14, 13, 14, 17, 16, 17, 20};
        for (int n = 0; n < due.length; n++) {
            Check.same("will(" + n + ")", x.will(n), due[n]);
        }
        for (int n = 1; n < due.length; n++) {
            Check.same("week " + n, x.week(), due[n]);
        }
    }

    @Says("ODDS of n CLIMBS of a TENANT: that m of them at least do not fail.")
    private static void oddsByCounting() {
        // Each row of n draws out of 100 each, by halves, quarters and fifths.
        int[] fails = {0, 20, 25, 50, 75, 80, 100};
        for (int f : fails) {
            SoManyStairs x = Check.told("tenant a on 0 strong 9 heavy 0 owes 0 fails " + f + ";");
            for (int n = 0; n <= 4; n++) {
                for (int m = 0; m <= n; m++) {
                    long upper = x.odds(0, n, m, 0);
                    long lower = x.odds(0, n, m, 1);
                    Check.same("odds of " + m + " of " + n + " failing " + f, upper * (long) Math.pow(20, n),
                            rows(n, m, f / 5) * lower);
                }
            }
        }
    }

    /** How many rows of n draws out of 20 have m at least that do not fail. */
    private static long rows(int n, int m, int fail) {
        if (n == 0) {
            return m <= 0 ? 1 : 0;
        }
        return fail * rows(n - 1, m, fail) + (20 - fail) * rows(n - 1, m - 1, fail);
    }

    @Says(promise = 24, value = "the upper part (0), the lower part (1),")
    private static void partsOfOdds() {
        SoManyStairs x = Check.told("tenant a on 0 strong 9 heavy 0 owes 0 fails 40;");
        Check.same("upper", x.odds(0, 1, 1, 0), 3);
        Check.same("lower", x.odds(0, 1, 1, 1), 5);
    }

    @Says("PROXY: each TENANT with a LACK is to be climbed for by another one,")
    private static void eachWithALack() {
        SoManyStairs x = Check.told(ten("a", 1, 9, 0, 20) + ten("b", 1, 9, 0, 0) + ten("c", 1, 9, 0, 30));
        Check.same("a and c, not b", x.proxy(), 2);
        Check.lies("b for a, a for c", x, 1, -1, 0);
        x.climb(0, 2, -1, 0);
        Check.same("c alone", x.proxy(), 1);
        Check.lies("a for c", x, -1, -1, 0);
        Check.same("nobody for himself", Check.told(ten("a", 1, 9, 0, 20)).proxy(), 0);
    }

    @Says("SETTLE of a TENANT by so many storeys: behind how many WEEKS his LACK is 0 first, "
            + "if in each he CLIMBS so many alone, by day,")
    private static void settleWeekByWeek() {
        SoManyStairs x = Check.told(ten("a", 1, 5, 0, 100) + "counts storeys*(10-night);");
        // Forty a week by two storeys: 40, 80, 100.
        Check.same("by two", x.settle(0, 2), 2);
        Check.same("by five", x.settle(0, 5), 1);
        x.climb(0, 4, -1, 0);
        x.week();
        Check.same("40 are paid", x.settle(0, 2), 1);
        x.week();
        x.week();
        x.week();
        // 60 of debt and 100 more: four weeks by 40.
        Check.same("with the debt", x.settle(0, 2), 3);
        // Four weeks by 30 leave 40, as many then leave 20 of what falls due, as many then nothing.
        Check.same("behind two months more", x.settle(0, 3), 11);
    }

    @Says("CALM: the two TENANTS by whose exchange of storeys fewest ENVIES are left;")
    private static void calmByExchange() {
        // a envies b and c; b envies c; c nobody.
        SoManyStairs x = Check.told(ten("a", 3, 0, 0, 300) + ten("b", 2, 0, 0, 200) + ten("c", 1, 0, 0, 100));
        Check.same("envies", x.quarrel(), 3);
        Check.same("a and c", x.calm(0), 0);
        Check.same("a and c", x.calm(1), 2);
        Check.same("none is left", x.calm(2), 0);
        Check.same("nothing is done", x.quarrel(), 3);
    }

    @Says(promise = 27, value = "How many TENANTS would have a LACK,")
    private static void lawCounts() {
        SoManyStairs x = Check.told(ten("a", 1, 9, 0, 10) + ten("b", 1, 9, 0, 20) + ten("c", 1, 9, 0, 30));
        Check.same("all", x.law(0), 3);
        x.climb(2, 5, -1, 0);
        Check.same("c has paid", x.law(0), 2);
        Check.same("20 more", x.law(20), 2);
        Check.same("21 more", x.law(21), 3);
        Check.same("ten less", x.law(-10), 1);
    }

    // ---- 4: CHALK

    @Says("of one TENANT who climbed for the widow,")
    private static void byOneTenant() {
        SoManyStairs x = Check.told("storeys 9;" + ten("a", 9, 3, 1, 0) + ten("b", 9, 3, 5, 0) + ten("c", 9, 3, 9, 0));
        Check.same("each of them", x.who(0), 7);
        x.tread(5, true);
        Check.same("not a", x.who(0), 6);
        x.tread(6, false);
        Check.same("b alone", x.who(0), 2);
        x.chalk(2, true);
        x.chalk(6, true);
        Check.same("nobody: four storeys are too many", x.who(0), 0);
    }

    @Says("RUNS: TENANT and run by which all that counts is so. WHO: TENANTS of whom there is one.")
    private static void tenantAndRun() {
        SoManyStairs x = Check.told("storeys 4;" + ten("a", 0, 1, 0, 0) + ten("b", 0, 2, 0, 0) + ten("c", 0, 3, 0, 0));
        // Of one storey four runs, of two three more, of three two more.
        Check.same("runs", x.runs(0), 4 + 7 + 9);
        x.chalk(1, true);
        x.chalk(3, true);
        // b: (1 3); c: this, (0 3) and (1 4).
        Check.same("with 1 and 3", x.runs(0), 4);
        Check.same("b and c", x.who(0), 6);
        x.chalk(4, true);
        Check.same("(1 4)", x.runs(0), 1);
        Check.same("c", x.who(0), 4);
    }

    // ---- The calls

    @Says(promise = 5, value = "Of the latest house() what 0: its FAULT")
    private static void faultOfTheLatest() {
        SoManyStairs x = new SoManyStairs();
        String[] texts = {"draw;", "draw 1;", "draw 1000;", "?", "tenant a on 0 strong 0 heavy 0 owes 0;tenant a", ""};
        int[] due = {2, 0, 4, 1, 3, 0};
        for (int i = 0; i < texts.length; i++) {
            Check.feed(x, texts[i]);
            x.house();
            Check.same("fault of " + texts[i], x.fault(0), due[i]);
        }
    }
}
