/** The boundary cases of what is asked of a state: promises 13 to 40. */
final class AskEdges {
    private AskEdges() {
    }

    private static String ten(String name, int on, int strong, int heavy, int owes) {
        return Check.tenant(name, on, strong, heavy, owes);
    }

    private static SoManyStairs lift(int all, int lift, String moves) {
        return Check.told("storeys " + all + " lift " + lift + ";moves " + moves + ";" + ten("a", 1, 40, 3, 20));
    }

    /** Nobody, and a house in which all that can be asked has an answer. */
    private static SoManyStairs busy() {
        SoManyStairs x = Check.told("storeys 9 lift 3;" + ten("a", 9, 20, 3, 100) + ten("b", 2, 30, 6, 250) + ten("c", 4, 40, 0, 20)
                + "moves climbed/5-1;draw 9;");
        x.climb(2, 9, -1, 0);
        x.climb(0, 5, -1, 0);
        Check.weeks(x, 4);
        x.climb(1, 7, -1, 0);
        x.climb(2, 7, -1, 0);
        x.undo();
        return x;
    }

    // ---- What all that is asked has in common

    @Says("(By what is now; nothing is done;")
    private static void nothingIsDone() {
        SoManyStairs x = busy();
        x.image(1);
        x.let();
        int[] before = Check.state(x);
        for (int t = 0; t < 3; t++) {
            x.tenant(t, 8);
            x.worth(t, 1, -1, 1, 0);
            x.carries(t, (t + 1) % 3);
            x.envies(t);
            x.month(t);
            x.odds(t, 4, 2, 0);
            x.stride(t, t % 2);
            x.settle(t, 1 + t);
            x.ladder(t);
            x.gifts(t);
            x.calm(t);
            x.live(t);
            x.lies(t);
            x.fault(t);
            x.will(20 * t);
            x.ruin(20 * t);
            x.hover(33 * t);
            x.law(-100 + 100 * t);
            x.team(20 * t, t % 2);
            x.runs(t);
            x.who(t);
            x.ask(t % 2, t);
            x.about(t);
        }
        x.rest();
        x.pull();
        x.lever();
        x.poorest();
        x.owing();
        x.toil();
        x.quarrel();
        x.spread();
        Check.stays("behind all that lays nothing", x, before);
        x.fewest(0);
        x.care();
        x.proxy();
        x.let();
        Check.stays("what lies is as it was, too", x, before);
        Check.same("the box", x.back(1), 4);
        Check.same("where they live", x.tenant(0, 0) + 10 * x.tenant(1, 0) + 100 * x.tenant(2, 0), 429);
    }

    @Says("nobody fails, if not told otherwise.")
    private static void nobodyFails() {
        SoManyStairs x = Check.told("tenant a on 1 strong 18 heavy 0 owes 100 fails 100;"
                + "tenant b on 1 strong 18 heavy 0 owes 90 fails 100;");
        Check.same("fewest", x.fewest(0), 2);
        Check.same("proxy", x.proxy(), 1);
        Check.lies("for b by a", x, -1, 0);
        Check.same("settle", x.settle(0, 9), 0);
        Check.same("ladder", x.ladder(0), 180);
        Check.same("stride", x.stride(0, 0), 1);
    }

    @Says("What lies ahead goes on beyond week 999, too.)")
    private static void beyondWeek999() {
        // No 512 calls come so far, so this is asked beyond what is promised.
        SoManyStairs x = Check.told("storeys 20;moves week=1001;counts (week=1003)*20;" + ten("a", 1, 1, 0, 10));
        Check.weeks(x, 990);
        Check.same("behind week 1000", x.will(11), 0);
        Check.same("behind week 1001", x.will(12), 1);
        Check.same("at the end", x.will(60), 1);
        Check.same("so the lift rests at once", x.rest(), 0);
        Check.same("debts in 990 weeks and in 60 more", x.ruin(60), 10 * (1050 / 4));
        Check.same("ten owed, ten by month", x.settle(0, 1), -1);
        SoManyStairs y = Check.told("storeys 20;moves (week<1010)*(1-week%2*2);counts (week=1003)*999;" + ten("a", 1, 2, 0, 1));
        Check.weeks(y, 990);
        Check.same("in week 1010 it rests", y.rest(), 20);
        Check.same("in week 1003 he pays", y.settle(0, 1), 13);
        SoManyStairs z = Check.told("storeys 20;moves week>1039;");
        Check.weeks(z, 990);
        Check.same("weeks 1040 to 1049", z.hover(0), 10);
    }

    // ---- LACK, FEWEST, CARRIES

    @Says("LACK of a TENANT: what he owes and his DEBT, less what he PAID, 0 at least.")
    private static void lackIsNotBelowZero() {
        SoManyStairs x = Check.told(ten("a", 1, 40, 0, 30));
        int[] due = {30, 20, 10, 0, 0, 0};
        for (int i = 0; i < due.length; i++) {
            Check.same("paid " + 10 * i, x.tenant(0, 8), due[i]);
            x.climb(0, 1, -1, 0);
        }
        Check.weeks(x, 8);
        Check.same("60 paid, 60 due", x.tenant(0, 8), 30);
        Check.weeks(x, 4);
        Check.same("with a debt of 30", x.tenant(0, 8), 60);
    }

    @Says("the fewest CLIMBS (4 at most);")
    private static void fourClimbsAtMost() {
        int[][] due = {{0, 0}, {1, 1}, {90, 1}, {91, 2}, {180, 2}, {181, 3}, {270, 3}, {271, 4}, {360, 4}, {361, -1}, {999, -1}};
        for (int[] d : due) {
            Check.same("owes " + d[0], Check.told(ten("a", 1, 40, 0, d[0])).fewest(0), d[1]);
        }
        // One climb of five is fewer than two of two, though these take fewer storeys.
        SoManyStairs x = Check.told("storeys 5;" + ten("a", 1, 20, 0, 50) + "counts (storeys=2)*25+(storeys=5)*50;");
        Check.same("one", x.fewest(0), 1);
        Check.lies("of five", x, 5);
    }

    @Says("alone, by day (climbed by all as they come,")
    private static void climbedAsTheyCome() {
        // Only behind just two storeys a climb is worth something.
        SoManyStairs x = Check.told("storeys 5;" + ten("a", 1, 20, 0, 45) + ten("b", 1, 9, 0, 45) + "counts (climbed=2)*50;");
        Check.same("two climbs", x.fewest(0), 2);
        Check.lies("2 and 1", x, 2, 1);
        x.climb(1, 1, -1, 0);
        Check.same("b climbed one", x.fewest(0), 2);
        Check.lies("1 and 1", x, 1, 1);
        x.climb(1, 1, -1, 0);
        Check.same("b climbed two", x.fewest(0), 1);
        Check.lies("1", x, 1);
        x.climb(1, 1, -1, 0);
        Check.same("b climbed three", x.fewest(0), -1);
        SoManyStairs y = Check.told(ten("a", 1, 20, 9, 45) + ten("b", 1, 9, 9, 0) + "counts storeys*10+heavy*100+night*100;");
        Check.same("nobody carried, by day", y.fewest(0), 1);
        Check.lies("five", y, 5);
    }

    @Says("PAID 9,999 at most), his LACK would be 0:")
    private static void noMoreThan9999IsPaid() {
        // 909 owed and ten months of it are 9999, 625 and fifteen of it 10000; seven climbs have paid 6993.
        SoManyStairs x = inDebt(909, 40);
        Check.same("lack", x.tenant(0, 8), 3006);
        Check.same("9999 can be paid", x.fewest(0), 4);
        Check.lies("the least", x, 1, 1, 1, 1);
        SoManyStairs y = inDebt(625, 60);
        Check.same("lack", y.tenant(0, 8), 3007);
        Check.same("10000 can't", y.fewest(0), -1);
        Check.lies("nothing", y);
    }

    private static SoManyStairs inDebt(int owes, int weeks) {
        SoManyStairs x = Check.told(ten("a", 1, 40, 0, owes) + "counts 999;");
        Check.weeks(x, weeks);
        for (int i = 0; i < 7; i++) {
            x.climb(0, 1, -1, 0);
        }
        return x;
    }

    @Says("of like ones those of the fewest storeys together;")
    private static void fewestStoreysTogether() {
        SoManyStairs x = Check.told(ten("a", 1, 20, 0, 100));
        x.fewest(0);
        Check.lies("ten together, not eleven", x, 1, 9);
        SoManyStairs y = Check.told(ten("a", 1, 20, 0, 40) + "counts (storeys=3)*50+(storeys=5)*90+(storeys=2)*39;");
        y.fewest(0);
        Check.lies("three", y, 3);
        SoManyStairs z = Check.told(ten("a", 1, 20, 0, 90) + "counts (storeys=1)*45+(storeys=2)*89;");
        z.fewest(0);
        Check.lies("1 and 1, not 1 and 2", z, 1, 1);
    }

    @Says("of like ones the first row (CLIMB by CLIMB: storeys).")
    private static void firstRow() {
        SoManyStairs x = Check.told(ten("a", 1, 40, 0, 271));
        x.fewest(0);
        Check.lies("the smallest ahead", x, 1, 9, 9, 9);
        SoManyStairs y = Check.told("storeys 5;" + ten("a", 1, 20, 0, 45) + "counts (storeys=1)*20+(storeys=2)*25+(storeys=4)*30;");
        y.fewest(0);
        Check.lies("1 and 2", y, 1, 2);
        // Of 2, 4 and 3, 3 and 4, 2 the first counts too little.
        SoManyStairs z = Check.told(ten("a", 1, 6, 0, 60)
                + "counts (climbed=0)*(storeys=3)*30+(climbed=3)*30+(climbed=0)*(storeys=4)*40+(climbed=4)*20;");
        Check.same("two", z.fewest(0), 2);
        Check.lies("3 and 1", z, 3, 1);
        // 1 and 4 are five storeys, too, but count one stair too little.
        SoManyStairs w = Check.told(ten("a", 1, 9, 0, 100) + "counts (storeys=1)*40+(storeys=2)*45+(storeys=3)*55+(storeys=4)*59;");
        Check.same("two", w.fewest(0), 2);
        Check.lies("2 and 3", w, 2, 3);
        // Six storeys at once count much, but not enough, and nothing can be climbed behind them.
        SoManyStairs v = Check.told(ten("a", 1, 6, 0, 102) + "counts (storeys=2)*34+(storeys=5)*36+(storeys=6)*66;");
        Check.same("three", v.fewest(0), 3);
        Check.lies("not from 1 on", v, 2, 2, 2);
    }

    @Says("(CLIMB by CLIMB: storeys)")
    private static void rowsOfAllStoreys() {
        SoManyStairs x = Check.told("storeys 20;" + ten("a", 1, 40, 0, 400) + ten("b", 1, 40, 0, 401) + "counts storeys*10;");
        Check.same("twice all", x.fewest(0), 2);
        Check.lies("twice all", x, 20, 20);
        Check.same("no breath for one more", x.fewest(1), -1);
        Check.same("all of it", x.ladder(0), 400);
        SoManyStairs y = Check.told("storeys 20;" + ten("a", 1, 40, 0, 1) + "counts (storeys=20)*(climbed=20);");
        Check.same("the second by all", y.fewest(0), 2);
        Check.lies("behind all", y, 20, 20);
        Check.same("one stair", y.ladder(0), 1);
    }

    @Says("CARRIES: he can carry another one by so many storeys, if he has BREATH for that.")
    private static void breathToCarry() {
        int[] due = {9, 9, 9, 4, 4, 4, 3, 3, 3, 2};
        for (int heavy = 0; heavy <= 9; heavy++) {
            SoManyStairs x = Check.told(ten("a", 1, 9, 9, 0) + ten("b", 1, 0, heavy, 0));
            Check.same("heavy " + heavy, x.carries(0, 1), due[heavy]);
            Check.is("by so many he can", due[heavy] == 0 || x.worth(0, due[heavy], 1, 0, 1) > 0);
            Check.same("not by one more", x.worth(0, due[heavy] + 1, 1, 0, 1), -1);
        }
    }

    @Says(promise = 13, value = "FEWEST: how many CLIMBS (0: none are needed);")
    private static void noClimbsNeeded() {
        SoManyStairs x = Check.told(ten("a", 1, 20, 0, 20) + ten("b", 1, 0, 0, 0));
        Check.same("b owes nothing", x.fewest(1), 0);
        x.let();
        Check.same("none", x.fewest(1), 0);
        Check.lies("no climb", x);
        x.climb(0, 1, -1, 0);
        Check.same("ten are lacking", x.fewest(0), 1);
        x.climb(0, 1, -1, 0);
        Check.same("just paid", x.fewest(0), 0);
        Check.lies("no climb", x);
    }

    @Says(promise = 13, value = "NONE if 4 are not enough,")
    private static void fourAreNotEnough() {
        SoManyStairs x = Check.told(ten("a", 1, 40, 0, 361) + ten("b", 1, 9, 0, 91) + ten("c", 1, 9, 0, 90) + ten("d", 1, 0, 0, 1));
        Check.same("361 by 360", x.fewest(0), -1);
        Check.same("no breath for ten", x.fewest(1), -1);
        Check.same("breath for nine", x.fewest(2), 1);
        Check.same("no breath at all", x.fewest(3), -1);
        x.climb(2, 1, -1, 0);
        Check.same("80 by eight", x.fewest(2), 1);
        Check.same("nothing counts", Check.told(ten("a", 1, 40, 0, 1) + "counts 0;").fewest(0), -1);
    }

    @Says(promise = 13, value = "or there is none such.")
    private static void fewestOfNobody() {
        SoManyStairs x = busy();
        for (int never : Check.NEVER) {
            Check.same("fewest(" + never + ")", x.fewest(never), -1);
        }
        Check.same("fewest(-1)", x.fewest(-1), -1);
        Check.same("fewest(3)", x.fewest(3), -1);
        Check.same("nobody there", new SoManyStairs().fewest(0), -1);
    }

    @Says(promise = 13, value = "How many storeys each has lies there then")
    private static void climbsLieThere() {
        SoManyStairs x = Check.told(ten("a", 1, 40, 0, 360) + ten("b", 1, 40, 0, 10));
        x.fewest(0);
        Check.lies("four", x, 9, 9, 9, 9);
        x.fewest(1);
        Check.lies("one alone", x, 1);
    }

    @Says(promise = 13, value = "(behind NONE: nothing).")
    private static void nothingLiesBehindNone() {
        SoManyStairs x = Check.told(ten("a", 1, 40, 0, 361) + ten("b", 1, 40, 0, 10));
        x.fewest(1);
        Check.same("too much", x.fewest(0), -1);
        Check.lies("nothing", x);
        x.fewest(1);
        Check.same("nobody", x.fewest(2), -1);
        Check.lies("nothing", x);
    }

    @Says(promise = 14, value = "The most storeys by which a TENANT CARRIES another one now (0 .. all);")
    private static void carriesFromNoneToAll() {
        SoManyStairs x = Check.told("storeys 6;" + ten("a", 1, 40, 2, 0) + ten("b", 1, 1, 3, 0) + ten("c", 1, 2, 9, 0));
        Check.same("all", x.carries(0, 2), 6);
        Check.same("one of two a storey", x.carries(1, 0), 1);
        Check.same("not even one", x.carries(1, 2), 0);
        Check.same("two by two", x.carries(2, 1), 1);
        x.climb(2, 1, -1, 0);
        Check.same("now he has one", x.carries(2, 1), 0);
        x.climb(0, 6, 2, 0);
        Check.same("16 by 4", x.carries(0, 2), 4);
    }

    @Says(promise = 14, value = "NONE if one can't be (himself, too).")
    private static void carriesWhoCannotBe() {
        SoManyStairs x = busy();
        for (int never : Check.NEVER) {
            Check.same("carries(" + never + ", 0)", x.carries(never, 0), -1);
            Check.same("carries(0, " + never + ")", x.carries(0, never), -1);
        }
        int[][] wrong = {{0, 0}, {1, 1}, {2, 2}, {-1, 0}, {0, -1}, {3, 0}, {0, 3}, {-1, -1}, {3, 3}};
        for (int[] w : wrong) {
            Check.same("carries(" + w[0] + ", " + w[1] + ")", x.carries(w[0], w[1]), -1);
        }
    }

    // ---- CARE, GIFTS, ENVY, LET

    @Says("each TENANT whose storey is above 0 is to be carried up there from the ground by another one,")
    private static void whoLivesAboveTheGround() {
        SoManyStairs x = Check.told(ten("a", 0, 40, 0, 0) + ten("b", 1, 40, 0, 0) + ten("c", 9, 40, 9, 0));
        Check.same("not a", x.care(), 2);
        Check.lies("c takes 36", x, -1, 0, 1);
        SoManyStairs y = Check.told(ten("a", 0, 35, 0, 0) + ten("b", 1, 36, 0, 0) + ten("c", 9, 40, 9, 0));
        y.care();
        Check.lies("breath just for it", y, -1, 0, 1);
        y.climb(1, 1, -1, 0);
        Check.same("35 are too few", y.care(), 1);
        Check.lies("only b", y, -1, 0, -1);
        Check.same("nobody carries himself", Check.told(ten("a", 1, 40, 0, 0)).care(), 0);
    }

    @Says("each one by one of them at most, each carries one at most: the most who can be.")
    private static void eachCarriesOne() {
        SoManyStairs x = Check.told(ten("a", 1, 0, 0, 0) + ten("b", 1, 0, 0, 0) + ten("c", 0, 40, 0, 0));
        Check.same("c carries one", x.care(), 1);
        // Only b can carry c, so a has to do with c.
        SoManyStairs y = Check.told(ten("a", 1, 0, 0, 0) + ten("b", 0, 9, 0, 0) + ten("c", 9, 1, 0, 0));
        Check.same("two", y.care(), 2);
        Check.lies("a by c", y, 2, -1, 1);
        StringBuilder eight = new StringBuilder();
        for (int i = 0; i < 8; i++) {
            eight.append(ten("" + (char) ('a' + i), 9, 36, 9, 0));
        }
        SoManyStairs z = Check.told(eight.toString());
        Check.same("all eight", z.care(), 8);
        // In another house nobody of them is left.
        Check.feed(z, ten("a", 1, 0, 0, 0) + ten("b", 0, 9, 0, 0) + ten("c", 9, 1, 0, 0));
        z.house();
        Check.same("two", z.care(), 2);
        Check.lies("a by c, c by b", z, 2, -1, 1);
        SoManyStairs w = Check.told(ten("a", 0, 9, 0, 0) + ten("b", 0, 40, 0, 0) + ten("c", 0, 9, 0, 0) + ten("d", 9, 9, 9, 0));
        Check.same("b alone can carry d", w.care(), 1);
        Check.feed(w, ten("a", 1, 9, 0, 0) + ten("b", 0, 9, 0, 0) + ten("c", 0, 9, 0, 0));
        w.house();
        Check.same("b and c can carry a", w.care(), 1);
        Check.lies("d is not there any more", w, 1, -1, -1);
    }

    @Says(promise = 15, value = "Who carries each TENANT lies there then (NONE: none),")
    private static void carriersLieThere() {
        SoManyStairs x = new SoManyStairs();
        Check.same("nobody", x.care(), 0);
        Check.lies("nobody", x);
        SoManyStairs y = Check.told(ten("a", 0, 9, 0, 0) + ten("b", 0, 9, 0, 0));
        Check.same("none is needed", y.care(), 0);
        Check.lies("none", y, -1, -1);
        SoManyStairs z = Check.told(ten("a", 9, 0, 0, 0) + ten("b", 9, 9, 0, 0));
        Check.same("one", z.care(), 1);
        Check.lies("a by b", z, 1, -1);
    }

    @Says(promise = 15, value = "that by which the first ones are carried by the least numbers "
            + "(TENANT by TENANT: NONE behind all numbers).")
    private static void theLeastNumbersCarry() {
        SoManyStairs x = Check.told(ten("a", 1, 9, 0, 0) + ten("b", 1, 9, 0, 0) + ten("c", 1, 9, 0, 0));
        Check.same("three", x.care(), 3);
        Check.lies("by 1, then 2, then 0", x, 1, 2, 0);
        SoManyStairs y = Check.told(ten("a", 1, 0, 0, 0) + ten("b", 1, 0, 0, 0) + ten("c", 0, 9, 0, 0) + ten("d", 0, 9, 0, 0)
                + ten("e", 0, 9, 0, 0));
        y.care();
        Check.lies("2 and 3", y, 2, 3, -1, -1, -1);
        SoManyStairs z = Check.told(ten("a", 1, 0, 0, 0) + ten("b", 1, 0, 0, 0) + ten("c", 0, 9, 0, 0));
        z.care();
        Check.lies("a rather than b", z, 2, -1, -1);
        // Though the first one must not be carried by the least number, if fewer could be carried then.
        SoManyStairs w = Check.told(ten("a", 1, 0, 0, 0) + ten("b", 9, 0, 0, 0) + ten("c", 0, 9, 0, 0) + ten("d", 0, 1, 0, 0));
        Check.same("two", w.care(), 2);
        Check.lies("a by d, b by c", w, 3, 2, -1, -1);
    }

    @Says("as long as somebody has PAID more than he owes and his DEBT, and somebody has a LACK,")
    private static void nobodyToGive() {
        SoManyStairs x = Check.told(ten("a", 1, 40, 0, 30) + ten("b", 1, 40, 0, 10) + ten("c", 1, 40, 0, 0));
        gifts("nobody has more", x, 0, 0, 40);
        x.climb(1, 1, -1, 0);
        gifts("just what he owes", x, 0, 0, 30);
        x.climb(1, 1, -1, 0);
        gifts("ten more", x, 1, 10, 20);
        x.climb(1, 9, -1, 0);
        gifts("more than is lacking", x, 1, 30, 0);
        x.climb(0, 3, -1, 0);
        gifts("nobody has a lack", x, 0, 0, 0);
        Check.weeks(x, 4);
        gifts("a lacks 30 and b has 90 more, of them ten of his own", x, 1, 30, 0);
        // One stair is enough to have more, and to lack.
        SoManyStairs z = Check.told(ten("a", 1, 40, 0, 1) + ten("b", 1, 40, 0, 9));
        z.climb(1, 1, -1, 0);
        gifts("one more, one lacking", z, 1, 1, 0);
        z.climb(1, 1, -1, 0);
        gifts("eleven more, one lacking", z, 1, 1, 0);
        SoManyStairs w = Check.told(ten("a", 1, 40, 0, 7) + ten("b", 1, 40, 0, 9));
        w.climb(1, 1, -1, 0);
        gifts("one more, seven lacking", w, 1, 1, 6);
        SoManyStairs y = new SoManyStairs();
        gifts("nobody there", y, 0, 0, 0);
    }

    private static void gifts(String what, SoManyStairs x, int times, int stairs, int left) {
        Check.same(what + ", how many", x.gifts(0), times);
        Check.same(what + ", how much", x.gifts(1), stairs);
        Check.same(what + ", left", x.gifts(2), left);
    }

    @Says("the first such one gives the first such one as much as both can")
    private static void firstToFirst() {
        SoManyStairs x = Check.told(ten("a", 1, 40, 0, 30) + ten("b", 1, 40, 0, 10) + ten("c", 1, 40, 0, 70) + ten("d", 1, 40, 0, 50)
                + ten("e", 1, 40, 0, 5));
        x.climb(1, 5, -1, 0);
        x.climb(3, 9, -1, 0);
        // b has 40 more: 30 to a, 10 to c; d has 40 more: to c, which lacks 20 and so does e its 5.
        gifts("three", x, 3, 80, 25);
        x.climb(3, 9, -1, 0);
        gifts("d has 130 more: 60 to c, 5 to e", x, 4, 105, 0);
    }

    @Says("(who has PAID 9,999 gets none, nobody comes to have more)")
    private static void nobodyIsGivenMore() {
        // a owes 999 and has eleven debts of it: 11988; c has nothing to pay.
        SoManyStairs x = Check.told(ten("a", 1, 40, 0, 999) + ten("b", 1, 40, 0, 20) + ten("c", 1, 40, 0, 0) + ten("d", 1, 40, 0, 30)
                + "counts 999;");
        Check.weeks(x, 44);
        for (int i = 0; i < 10; i++) {
            x.climb(0, 1, -1, 0);
        }
        x.climb(2, 1, -1, 0);
        // 9990: nine more are all that a can have; then 240 are b's and 360 are d's.
        gifts("nine, then the others", x, 3, 9 + 240 + 360, 11988 - 9999);
        Check.same("nine", x.give(2, 0, 9), 9999);
        gifts("a gets none", x, 2, 240 + 360, 11988 - 9999);
    }

    @Says(promise = 16, value = "GIFTS what 0: how many, 1: how many stairs in all, 2: LACKS that are left together;")
    private static void giftsOfEachWhat() {
        SoManyStairs x = Check.told(ten("a", 1, 40, 0, 100) + ten("b", 1, 40, 0, 10) + ten("c", 1, 40, 0, 25));
        x.climb(1, 8, -1, 0);
        x.climb(2, 5, -1, 0);
        gifts("70 of b, 25 of c", x, 2, 95, 5);
    }

    @Says(promise = 16, value = "NONE for another what.")
    private static void giftsOfAnotherWhat() {
        SoManyStairs x = busy();
        for (int never : Check.NEVER) {
            Check.same("gifts(" + never + ")", x.gifts(never), -1);
        }
        Check.same("gifts(-1)", x.gifts(-1), -1);
        Check.same("gifts(3)", x.gifts(3), -1);
    }

    @Says("ENVY: a TENANT envies another one who lives lower, or as low, and owes less.")
    private static void lowerOrAsLowAndLess() {
        int[][] due = {{4, 49, 1}, {5, 49, 1}, {6, 49, 0}, {4, 50, 0}, {5, 50, 0}, {6, 50, 0}, {4, 51, 0}, {5, 51, 0}, {0, 0, 1}};
        for (int[] d : due) {
            SoManyStairs x = Check.told(ten("a", 5, 1, 0, 50) + ten("b", d[0], 1, 0, d[1]));
            Check.same("b on " + d[0] + " owes " + d[1], x.envies(0), 2 * d[2]);
            boolean back = d[0] >= 5 && d[1] > 50;
            Check.same("back", x.envies(1), back ? 1 : 0);
        }
        // What one owes a month counts, not what one lacks.
        SoManyStairs y = Check.told(ten("a", 5, 9, 0, 50) + ten("b", 5, 9, 0, 40));
        y.climb(0, 5, -1, 0);
        Check.same("a has paid", y.envies(0), 2);
    }

    @Says(promise = 17, value = "Whom a TENANT ENVIES, as bits;")
    private static void enviesAsBits() {
        StringBuilder eight = new StringBuilder(ten("a", 9, 1, 0, 999));
        for (int i = 1; i < 8; i++) {
            eight.append(ten("" + (char) ('a' + i), 9 - i, 1, 0, 100 - i));
        }
        SoManyStairs x = Check.told(eight.toString());
        int[] due = {254, 252, 248, 240, 224, 192, 128, 0};
        for (int t = 0; t < 8; t++) {
            Check.same("envies(" + t + ")", x.envies(t), due[t]);
        }
    }

    @Says(promise = 17, value = "NONE if there is none such.")
    private static void enviesOfNobody() {
        SoManyStairs x = busy();
        for (int never : Check.NEVER) {
            Check.same("envies(" + never + ")", x.envies(never), -1);
        }
        Check.same("envies(-1)", x.envies(-1), -1);
        Check.same("envies(3)", x.envies(3), -1);
    }

    @Says("(each on the storey of one of them, no two on one's place),")
    private static void noTwoOnOnesPlace() {
        SoManyStairs x = Check.told(ten("a", 9, 1, 0, 0) + ten("b", 1, 1, 0, 0) + ten("c", 1, 1, 0, 0));
        Check.same("nobody can come to 1 with two there", x.let(), 240);
        Check.lies("the two ones and the nine", x, 1, 1, 9);
        SoManyStairs y = Check.told(ten("a", 9, 1, 0, 100) + ten("b", 9, 1, 0, 100));
        Check.same("all on nine", y.let(), 0);
        Check.lies("on nine", y, 9, 9);
        // Each time anew, in each house anew.
        Check.same("once more", x.let(), 240);
        Check.lies("the two ones and the nine", x, 1, 1, 9);
        Check.feed(x, ten("a", 9, 1, 0, 270) + ten("b", 2, 1, 0, 0) + ten("c", 0, 1, 0, 210) + ten("d", 2, 1, 0, 0));
        x.house();
        Check.same("in another house", x.let(), 210);
        Check.lies("270, 60, 270 and 60", x, 0, 2, 2, 9);
    }

    @Says("what each owes stays his own.")
    private static void whatEachOwesStays() {
        SoManyStairs x = Check.told(ten("a", 0, 1, 0, 0) + ten("b", 9, 1, 0, 270));
        Check.same("as even as can be", x.let(), 0);
        Check.lies("exchanged", x, 9, 0);
        Check.same("a", x.tenant(0, 3), 0);
        Check.same("b", x.tenant(1, 3), 270);
        Check.same("nobody has moved", x.tenant(0, 0), 0);
    }

    @Says("the least difference of the most and the least;")
    private static void theLeastDifference() {
        Check.same("one", Check.told(ten("a", 9, 1, 0, 999)).let(), 0);
        Check.same("one on the ground, who owes nothing", Check.told(ten("a", 0, 1, 0, 0)).let(), 0);
        Check.same("500 and 40", Check.told(ten("a", 2, 1, 0, 10) + ten("b", 1, 1, 0, 0) + ten("c", 0, 1, 0, 500)).let(), 460);
        Check.same("0 and 999 cannot be evened", Check.told("storeys 20;" + ten("a", 0, 1, 0, 0) + ten("b", 0, 1, 0, 999)).let(), 999);
        Check.same("600 and 999", Check.told("storeys 20;" + ten("a", 0, 1, 0, 0) + ten("b", 20, 1, 0, 999)).let(), 399);
        Check.same("600 and 0", Check.told("storeys 20;" + ten("a", 0, 1, 0, 0) + ten("b", 20, 1, 0, 0)).let(), 600);
    }

    @Says(promise = 18, value = "LET: the least difference; NONE without TENANTS.")
    private static void letWithoutTenants() {
        SoManyStairs x = new SoManyStairs();
        Check.same("nobody", x.let(), -1);
        Check.lies("nothing", x);
    }

    @Says(promise = 18, value = "The storey of each TENANT lies there then; of like ones the first (TENANT by TENANT: the lowest).")
    private static void theLowestForTheFirst() {
        SoManyStairs x = Check.told(ten("a", 2, 1, 0, 10) + ten("b", 1, 1, 0, 0) + ten("c", 0, 1, 0, 500));
        x.let();
        Check.lies("40, 60 and 500 are as even as 70, 30 and 500 are not", x, 1, 2, 0);
        SoManyStairs y = Check.told(ten("a", 4, 1, 0, 10) + ten("b", 2, 1, 0, 10) + ten("c", 3, 1, 0, 10));
        y.let();
        Check.lies("like rents", y, 2, 3, 4);
        SoManyStairs z = Check.told(ten("a", 1, 1, 0, 900) + ten("b", 2, 1, 0, 0) + ten("c", 3, 1, 0, 0) + ten("d", 4, 1, 0, 20));
        // a on 1: 930; the least rent is the higher, the lower who owes more: b and c on 3 and 4, d on 2.
        Check.same("930 and 80", z.let(), 850);
        Check.lies("b on 3, c on 4, d on 2", z, 1, 3, 4, 2);
    }

    // ---- Weeks ahead

    @Says(promise = 19, value = "What a month costs a TENANT where he lives: 30 times his storey and what he owes;")
    private static void costOfAMonth() {
        SoManyStairs x = Check.told("storeys 20;" + ten("a", 0, 9, 0, 0) + ten("b", 20, 9, 0, 999) + ten("c", 1, 9, 0, 7));
        Check.same("nothing", x.month(0), 0);
        Check.same("the most", x.month(1), 1599);
        Check.same("37", x.month(2), 37);
        x.climb(2, 9, -1, 0);
        Check.weeks(x, 4);
        Check.same("whatever he paid", x.month(2), 37);
    }

    @Says(promise = 19, value = "NONE if there is none such.")
    private static void monthOfNobody() {
        SoManyStairs x = busy();
        for (int never : Check.NEVER) {
            Check.same("month(" + never + ")", x.month(never), -1);
        }
        Check.same("month(-1)", x.month(-1), -1);
        Check.same("month(3)", x.month(3), -1);
    }

    @Says("behind how many WEEKS (nobody climbing any more) a WEEK first leaves it where it is.")
    private static void restFirst() {
        // Down by one till 0, though later it would go up.
        Check.same("two", lift(9, 2, "(week=5)*3-1").rest(), 2);
        Check.same("at the top", lift(9, 7, "5").rest(), 1);
        SoManyStairs x = lift(9, 0, "climbed");
        x.climb(0, 4, -1, 0);
        Check.same("what is climbed moves it once", x.rest(), 1);
        x.week();
        Check.same("then nobody climbs", x.rest(), 0);
    }

    @Says(promise = 20, value = "REST (0 .. 60; 0: the next WEEK leaves it);")
    private static void restFromNoneToSixty() {
        Check.same("at once", new SoManyStairs().rest(), 0);
        Check.same("at the bound already", lift(9, 9, "1").rest(), 0);
        Check.same("one", lift(9, 8, "1").rest(), 1);
        Check.same("59", lift(20, 0, "(week<59)*(1-week%2*2)").rest(), 59);
        Check.same("60", lift(20, 0, "(week<60)*(1-week%2*2)").rest(), 60);
    }

    @Says(promise = 20, value = "NONE if never in these.")
    private static void neverAtRest() {
        Check.same("61", lift(20, 0, "(week<61)*(1-week%2*2)").rest(), -1);
        Check.same("to and fro", lift(5, 2, "1-week%2*2").rest(), -1);
    }

    @Says(promise = 21, value = "WILL (n 0 .. 60);")
    private static void willFromNoneToSixty() {
        SoManyStairs x = lift(20, 4, "2-climbed+(week=59)*3-(week=60)*20-(week>3)*2");
        x.climb(0, 5, -1, 0);
        int[] due = {4, 1, 3, 5, 7, 7};
        for (int n = 0; n < due.length; n++) {
            Check.same("will(" + n + ")", x.will(n), due[n]);
        }
        Check.same("will(59)", x.will(59), 7);
        Check.same("will(60)", x.will(60), 10);
    }

    @Says(promise = 21, value = "NONE for another n.")
    private static void willForAnotherNumber() {
        SoManyStairs x = lift(9, 4, "1");
        for (int n : new int[] {-1, 61, -60, 100, Integer.MIN_VALUE, Integer.MAX_VALUE}) {
            Check.same("will(" + n + ")", x.will(n), -1);
        }
    }

    @Says(promise = 22, value = "What the lift would move in a WEEK now (it may be below 0; as told, whatever storeys there are).")
    private static void pullWithoutBounds() {
        Check.same("below 0", lift(5, 2, "0-7").pull(), -7);
        Check.same("at the ground", lift(5, 0, "0-7").pull(), -7);
        Check.same("at the top", lift(5, 5, "9999").pull(), 9999);
        Check.same("NONE is a number of its own here", lift(5, 2, "0-1").pull(), -1);
        Check.same("the least int", lift(5, 2, "2*(1024*1024*1024)").pull(), Integer.MIN_VALUE);
        SoManyStairs x = lift(5, 2, "climbed*7+week*100");
        x.week();
        x.climb(0, 3, -1, 0);
        Check.same("now", x.pull(), 121);
    }

    @Says(promise = 23, value = "How many storeys more (0 .. 99) would have to be climbed this week, "
            + "so that the lift is higher behind the WEEK than now: the fewest;")
    private static void leverFromNoneTo99() {
        Check.same("not told", new SoManyStairs().lever(), 10);
        Check.same("none", lift(5, 2, "1").lever(), 0);
        Check.same("one", lift(5, 2, "climbed>0").lever(), 1);
        Check.same("99", lift(5, 2, "climbed>98").lever(), 99);
        Check.same("the fewest", lift(5, 2, "(climbed=7)+(climbed>20)").lever(), 7);
        SoManyStairs x = lift(5, 2, "climbed/10-1");
        x.climb(0, 5, -1, 0);
        x.climb(0, 3, -1, 0);
        Check.same("8 and 12", x.lever(), 12);
        // Behind the WEEK, so by the sum that wraps.
        Check.same("the sum wraps", lift(5, 2, "(climbed<3)*(2*(1024*1024*1024)-1)+(climbed>3)").lever(), 4);
    }

    @Says(promise = 23, value = "NONE if not within these.")
    private static void leverTooLong() {
        Check.same("100", lift(5, 2, "climbed>99").lever(), -1);
        Check.same("at the top", lift(5, 5, "climbed").lever(), -1);
        Check.same("never", lift(5, 2, "0").lever(), -1);
    }

    // ---- ODDS, LACKS, laws, strides

    private static SoManyStairs failing(int fails) {
        return Check.told("tenant a on 1 strong 1 heavy 1 owes 1 fails " + fails + ";");
    }

    private static void odds(int fails, int n, int m, int upper, int lower) {
        SoManyStairs x = failing(fails);
        Check.same("odds of " + m + " of " + n + " failing " + fails, x.odds(0, n, m, 0), upper);
        Check.same("lower part", x.odds(0, n, m, 1), lower);
    }

    @Says("ODDS of n CLIMBS of a TENANT: that m of them at least do not fail.")
    private static void oddsOfSomeAtLeast() {
        odds(20, 1, 1, 4, 5);
        odds(20, 2, 2, 16, 25);
        odds(20, 2, 1, 24, 25);
        odds(20, 3, 2, 112, 125);
        odds(20, 4, 3, 512, 625);
        odds(50, 4, 2, 11, 16);
        odds(1, 2, 1, 9999, 10000);
        odds(99, 1, 1, 1, 100);
    }

    @Says(promise = 24, value = "ODDS (n 0 .. 4, m 0 .. n)")
    private static void oddsAtTheBounds() {
        odds(33, 0, 0, 1, 1);
        odds(33, 1, 0, 1, 1);
        odds(33, 4, 0, 1, 1);
        odds(1, 4, 4, 96059601, 100000000);
        odds(1, 4, 1, 99999999, 100000000);
        odds(99, 4, 4, 1, 100000000);
        // Of four not 33 of 100 fail: one less 33 to the fourth, by 100 to the fourth.
        odds(33, 4, 1, 100000000 - 33 * 33 * 33 * 33, 100000000);
    }

    @Says(promise = 24, value = "in lowest terms (0 of 1);")
    private static void lowestTerms() {
        odds(100, 1, 1, 0, 1);
        odds(100, 4, 4, 0, 1);
        odds(100, 4, 1, 0, 1);
        odds(100, 4, 0, 1, 1);
        odds(0, 4, 4, 1, 1);
        odds(0, 1, 1, 1, 1);
        odds(50, 1, 1, 1, 2);
        odds(75, 2, 2, 1, 16);
    }

    @Says(promise = 24, value = "NONE if one can't be.")
    private static void oddsThatCannotBe() {
        SoManyStairs x = failing(20);
        for (int never : Check.NEVER) {
            Check.same("tenant " + never, x.odds(never, 1, 1, 0), -1);
            Check.same("n " + never, x.odds(0, never, 1, 0), -1);
            Check.same("m " + never, x.odds(0, 1, never, 0), -1);
            Check.same("part " + never, x.odds(0, 1, 1, never), -1);
        }
        int[][] wrong = {{-1, 1, 1, 0}, {1, 1, 1, 0}, {0, -1, 0, 0}, {0, -1, -1, 0}, {0, 5, 1, 0}, {0, 5, 5, 0}, {0, 1, -1, 0}, {0, 1, 2, 0},
            {0, 0, 1, 0}, {0, 4, 5, 0}, {0, 1, 1, 2}, {0, 1, 1, -1}};
        for (int[] w : wrong) {
            Check.same("odds", x.odds(w[0], w[1], w[2], w[3]), -1);
        }
    }

    @Says(promise = 25, value = "The TENANT of the greatest LACK; of like ones the first;")
    private static void poorestOfLikeOnes() {
        SoManyStairs x = Check.told(ten("a", 1, 9, 0, 30) + ten("b", 1, 9, 0, 50) + ten("c", 1, 9, 0, 50));
        Check.same("b and c", x.poorest(), 1);
        x.climb(1, 1, -1, 0);
        Check.same("c", x.poorest(), 2);
        x.climb(2, 2, -1, 0);
        Check.same("b", x.poorest(), 1);
        x.climb(1, 1, -1, 0);
        Check.same("all lack 30", x.poorest(), 0);
        for (int t = 0; t < 3; t++) {
            x.climb(t, 3 + t, -1, 0);
        }
        Check.same("nobody lacks, however much was paid", x.poorest(), 0);
    }

    @Says(promise = 25, value = "NONE without TENANTS.")
    private static void poorestOfNobody() {
        Check.same("nobody", new SoManyStairs().poorest(), -1);
        Check.same("one without a lack", Check.told(ten("a", 1, 1, 1, 0)).poorest(), 0);
    }

    @Says(promise = 26, value = "TENANTS with a LACK, as bits.")
    private static void owingAsBits() {
        Check.same("nobody", new SoManyStairs().owing(), 0);
        StringBuilder eight = new StringBuilder();
        for (int i = 0; i < 8; i++) {
            eight.append(ten("" + (char) ('a' + i), 1, 9, 0, 10));
        }
        SoManyStairs x = Check.told(eight.toString());
        int due = 255;
        for (int t = 0; t < 8; t++) {
            Check.same("owing", x.owing(), due);
            x.climb(t, 1, -1, 0);
            due -= 1 << t;
        }
        Check.same("nobody any more", x.owing(), 0);
        SoManyStairs y = Check.told(ten("a", 1, 9, 0, 11) + ten("b", 1, 9, 0, 1));
        y.climb(0, 1, -1, 0);
        Check.same("one stair is a lack", y.owing(), 3);
    }

    @Says(promise = 27, value = "if each owed n more (-999 .. 999; 0 at least);")
    private static void lawAtItsBounds() {
        SoManyStairs x = Check.told(ten("a", 1, 40, 0, 999) + ten("b", 1, 40, 0, 5) + ten("c", 1, 40, 0, 0) + "counts 999;");
        Check.same("999 less", x.law(-999), 0);
        Check.same("998 less", x.law(-998), 1);
        Check.same("5 less", x.law(-5), 1);
        Check.same("4 less", x.law(-4), 2);
        Check.same("as it is", x.law(0), 2);
        Check.same("one more", x.law(1), 3);
        Check.same("999 more", x.law(999), 3);
        x.climb(0, 1, -1, 0);
        x.climb(0, 1, -1, 0);
        Check.same("1998 are paid", x.law(999), 2);
        x.climb(2, 1, -1, 0);
        Check.same("999 are paid", x.law(999), 1);
        // 0 at least: whoever owes nothing any more has his DEBT still.
        SoManyStairs y = Check.told(ten("a", 1, 40, 0, 5));
        Check.weeks(y, 4);
        Check.same("a debt of 5", y.law(-999), 1);
        y.climb(0, 1, -1, 0);
        Check.same("10 are paid", y.law(-999), 0);
        Check.same("5 and 5", y.law(0), 0);
        Check.same("6 and 5", y.law(1), 1);
    }

    @Says(promise = 27, value = "NONE for another n.")
    private static void lawForAnotherNumber() {
        SoManyStairs x = busy();
        for (int n : new int[] {-1000, 1000, Integer.MIN_VALUE, Integer.MAX_VALUE, -65536, 65536}) {
            Check.same("law(" + n + ")", x.law(n), -1);
        }
    }

    @Says(promise = 28, value = "By how many storeys (1 .. all)")
    private static void strideFromOneToAll() {
        SoManyStairs x = Check.told("storeys 20;" + ten("a", 1, 40, 0, 0) + "counts storeys*(storeys*night+1-night);");
        Check.same("one", x.stride(0, 0), 1);
        Check.same("all", x.stride(0, 1), 20);
        stride("999 at most, so not all", "storeys*100", 1);
        stride("1000 by 10 are 999, too", "storeys*storeys*storeys", 10);
    }

    /** By day, of twenty storeys, with breath for each of them. */
    private static void stride(String what, String counts, int due) {
        Check.same(what, Check.told("storeys 20;" + ten("a", 1, 40, 0, 0) + "counts " + counts + ";").stride(0, 0), due);
    }

    @Says(promise = 28, value = "a CLIMB alone, by day (0), by night (1), COUNTS most for each storey")
    private static void strideAloneByDayOrNight() {
        SoManyStairs x = Check.told(ten("a", 1, 9, 9, 0) + ten("b", 1, 9, 9, 0) + "counts (night+1=storeys)*50+heavy*999;");
        Check.same("by day", x.stride(0, 0), 1);
        Check.same("by night", x.stride(0, 1), 2);
        SoManyStairs y = Check.told(ten("a", 1, 9, 0, 0) + "counts (storeys=climbed+3)*50+(storeys=2)*(week+lift);moves 3;");
        Check.same("nothing climbed", y.stride(0, 0), 3);
        y.climb(0, 2, -1, 0);
        Check.same("two climbed", y.stride(0, 0), 5);
        y.week();
        Check.same("50 of 3 and 4 of 2", y.stride(0, 0), 3);
    }

    @Says(promise = 28, value = "(compared exactly)")
    private static void strideComparedExactly() {
        stride("5 of 2 and 8 of 3", "(storeys=2)*5+(storeys=3)*8", 3);
        stride("887 of 8 and 998 of 9", "(storeys=8)*887+(storeys=9)*998", 9);
        stride("888 of 8 and 998 of 9", "(storeys=8)*888+(storeys=9)*998", 8);
    }

    @Says(promise = 28, value = "for which a TENANT has BREATH;")
    private static void strideByBreath() {
        SoManyStairs x = Check.told(ten("a", 1, 8, 9, 0) + "counts storeys*storeys;");
        Check.same("eight", x.stride(0, 0), 8);
        x.climb(0, 3, -1, 0);
        Check.same("five", x.stride(0, 0), 5);
        x.climb(0, 4, -1, 0);
        Check.same("one", x.stride(0, 0), 1);
    }

    @Says(promise = 28, value = "of like ones the fewest;")
    private static void strideOfLikeOnes() {
        Check.same("not told", Check.told(ten("a", 1, 9, 0, 0)).stride(0, 0), 1);
        stride("5 of 2 and 10 of 4", "(storeys=2)*5+(storeys=4)*10", 2);
        Check.same("nothing counts", Check.told(ten("a", 1, 9, 0, 0) + "counts 0;").stride(0, 1), 1);
    }

    @Says(promise = 28, value = "NONE if there is none,")
    private static void noStride() {
        SoManyStairs x = Check.told(ten("a", 1, 0, 0, 0) + ten("b", 1, 2, 0, 0));
        Check.same("no breath ever", x.stride(0, 0), -1);
        x.climb(1, 2, -1, 0);
        Check.same("no breath now", x.stride(1, 1), -1);
    }

    @Says(promise = 28, value = "or one can't be.")
    private static void strideThatCannotBe() {
        SoManyStairs x = busy();
        for (int never : Check.NEVER) {
            Check.same("tenant " + never, x.stride(never, 0), -1);
            Check.same("night " + never, x.stride(0, never), -1);
        }
        int[][] wrong = {{-1, 0}, {3, 0}, {0, -1}, {0, 2}};
        for (int[] w : wrong) {
            Check.same("stride", x.stride(w[0], w[1]), -1);
        }
    }

    // ---- PROXY, SETTLE

    @Says("who has the BREATH for it, with one CLIMB alone, by day, of the fewest storeys "
            + "by which it COUNTS the LACK at least (as things are now);")
    private static void fewestStoreysForTheLack() {
        SoManyStairs x = Check.told(ten("a", 1, 0, 9, 40) + ten("b", 1, 5, 9, 0) + "counts storeys*10+night*100+heavy*100;");
        proxy("four count 40", x, 1, 4, 1, -1);
        x.climb(1, 1, -1, 0);
        proxy("breath for four", x, 1, 4, 1, -1);
        x.climb(1, 1, -1, 0);
        proxy("breath for three", x, 0, 0, -1, -1);
        SoManyStairs y = Check.told(ten("a", 1, 0, 0, 41) + ten("b", 1, 9, 0, 0));
        proxy("five for 41", y, 1, 5, 1, -1);
        SoManyStairs z = Check.told(ten("a", 1, 0, 0, 40) + ten("b", 1, 9, 0, 0) + "counts (storeys=3)*40+(storeys>6)*99;");
        proxy("three, though four count nothing", z, 1, 3, 1, -1);
        SoManyStairs w = Check.told(ten("a", 1, 0, 0, 91) + ten("b", 1, 40, 0, 0));
        proxy("91 by one climb are too many", w, 0, 0, -1, -1);
        SoManyStairs v = Check.told(ten("a", 1, 40, 0, 40) + ten("b", 1, 9, 0, 0) + "counts climbed*20;");
        proxy("nothing is climbed yet", v, 0, 0, -1, -1);
        v.climb(1, 2, -1, 0);
        proxy("now one is enough", v, 1, 1, 1, -1);
        SoManyStairs u = Check.told(ten("a", 1, 40, 0, 10));
        proxy("nobody climbs for himself", u, 0, 0, -1);
        SoManyStairs t = Check.told(ten("a", 1, 40, 0, 11) + ten("b", 1, 9, 0, 0));
        t.climb(0, 1, -1, 0);
        proxy("one stair is a lack", t, 1, 1, 1, -1);
        t.climb(0, 1, -1, 0);
        proxy("it is paid", t, 0, 0, -1, -1);
        Check.same("b carries a, a b", t.care(), 2);
        proxy("who carries has nothing to do with it", t, 0, 0, -1, -1);
    }

    private static void proxy(String what, SoManyStairs x, int many, int storeys, int... who) {
        Check.same(what + ", how many", x.proxy(), many);
        Check.lies(what, x, who);
        Check.same(what + ", toil", x.toil(), storeys);
    }

    @Says("each one climbs for one at most: the most for whom it can be, then the fewest storeys in all;")
    private static void mostThenFewestStoreys() {
        SoManyStairs x = Check.told(ten("a", 1, 0, 0, 60) + ten("b", 1, 0, 0, 40) + ten("c", 1, 9, 0, 0));
        proxy("one can climb for one", x, 1, 4, -1, 2, -1);
        // Two for nine and nine storeys go ahead of one for one storey.
        SoManyStairs y = Check.told(ten("a", 1, 0, 0, 90) + ten("b", 1, 0, 0, 90) + ten("c", 1, 9, 0, 0) + ten("d", 1, 9, 0, 0));
        proxy("two by nine", y, 2, 18, 2, 3, -1, -1);
        // All eight, one for another, by twenty storeys each.
        StringBuilder eight = new StringBuilder("storeys 20;");
        for (int i = 0; i < 8; i++) {
            eight.append(ten("" + (char) ('a' + i), 1, 20, 0, 200));
        }
        SoManyStairs z = Check.told(eight.toString());
        proxy("eight by twenty", z, 8, 160, 1, 0, 3, 2, 5, 4, 7, 6);
    }

    @Says("of like ones the first (TENANT by TENANT: the least number, NONE behind all).")
    private static void firstProxies() {
        SoManyStairs x = Check.told(ten("a", 1, 0, 0, 40) + ten("b", 1, 0, 0, 40) + ten("c", 1, 9, 0, 0));
        proxy("a rather than b", x, 1, 4, 2, -1, -1);
        SoManyStairs y = Check.told(ten("a", 1, 9, 0, 10) + ten("b", 1, 9, 0, 10) + ten("c", 1, 9, 0, 10));
        proxy("1, then 2, then 0", y, 3, 3, 1, 2, 0);
    }

    @Says(promise = 29, value = "PROXY: how many. Who climbs for each TENANT lies there then (NONE: nobody).")
    private static void proxiesLieThere() {
        SoManyStairs x = new SoManyStairs();
        proxy("nobody", x, 0, 0);
        SoManyStairs y = Check.told(ten("a", 1, 9, 0, 0) + ten("b", 1, 9, 0, 0));
        proxy("nobody lacks", y, 0, 0, -1, -1);
    }

    @Says(promise = 30, value = "How many storeys are climbed by PROXY in all.")
    private static void toilOfNobody() {
        Check.same("nobody", new SoManyStairs().toil(), 0);
        SoManyStairs x = Check.told(ten("a", 1, 3, 0, 50) + ten("b", 1, 5, 0, 30) + ten("c", 1, 9, 0, 90));
        x.fewest(0);
        int[] before = Check.state(x);
        Check.same("5 and 3", x.toil(), 8);
        Check.stays("it lays nothing", x, before);
    }

    @Says("as often as his BREATH lasts, till it is 0, nobody else climbing.")
    private static void asOftenAsBreathLasts() {
        // By one storey four times a week: 40 this week, so 80 behind one.
        SoManyStairs x = Check.told(ten("a", 1, 4, 0, 80) + ten("b", 1, 40, 0, 0));
        Check.same("one by one", x.settle(0, 1), 1);
        Check.same("three: one climb of 30 a week", x.settle(0, 3), 2);
        x.climb(0, 1, -1, 0);
        Check.same("three are left", x.settle(0, 1), 1);
        x.climb(0, 2, -1, 0);
        x.climb(0, 1, -1, 0);
        Check.same("40 are paid, no breath is left", x.settle(0, 1), 1);
        // His climbs move the lift, by which they count: 0, then three by 3 or more.
        SoManyStairs y = Check.told("counts lift;moves climbed;" + ten("a", 1, 3, 0, 9));
        Check.same("nothing, then three by 3", y.settle(0, 1), 1);
        Check.same("nothing, then one by 2", Check.told("counts lift;moves climbed;" + ten("a", 1, 3, 0, 2)).settle(0, 2), 1);
        // Till it is 0: one stair is a lack still.
        Check.same("eleven", Check.told(ten("a", 1, 4, 0, 11)).settle(0, 1), 0);
        // Alone, by day.
        SoManyStairs w = Check.told(ten("a", 1, 4, 9, 5) + "counts heavy*100+night*100;");
        Check.same("nobody carried, not by night", w.settle(0, 1), -1);
        // Nobody else: what b has climbed this week counts once.
        SoManyStairs z = Check.told(ten("a", 1, 1, 0, 20) + ten("b", 1, 40, 0, 0) + "counts climbed;");
        z.climb(1, 9, -1, 0);
        z.climb(1, 2, -1, 0);
        Check.same("11, then nothing", z.settle(0, 1), -1);
        z.climb(1, 9, -1, 0);
        Check.same("20 at once", z.settle(0, 1), 0);
    }

    @Says(promise = 31, value = "SETTLE (storeys 1 .. all):")
    private static void settleByOneToAll() {
        SoManyStairs x = Check.told("storeys 20;" + ten("a", 1, 20, 0, 200));
        Check.same("by all", x.settle(0, 20), 0);
        Check.same("by one", x.settle(0, 1), 0);
        Check.same("by 19: ten less, then ten more", x.settle(0, 19), 1);
    }

    @Says(promise = 31, value = "behind how many WEEKS (0 .. 60);")
    private static void settleFromNoneToSixty() {
        Check.same("nothing is owed", Check.told(ten("a", 1, 0, 0, 0)).settle(0, 9), 0);
        String start = "moves 0;counts (week=";
        Check.same("0", Check.told(start + "0)*999;" + ten("a", 1, 2, 0, 60)).settle(0, 2), 0);
        Check.same("59", Check.told(start + "59)*999;" + ten("a", 1, 2, 0, 60)).settle(0, 2), 59);
        Check.same("60", Check.told(start + "60)*999;" + ten("a", 1, 2, 0, 60)).settle(0, 2), 60);
        // Rents fall due meanwhile: 60, and 15 times 60 by week 60 are 960.
        Check.same("960 of 999", Check.told(start + "60)*960;" + ten("a", 1, 2, 0, 60)).settle(0, 2), 60);
        Check.same("959", Check.told(start + "60)*959;" + ten("a", 1, 2, 0, 60)).settle(0, 2), -1);
    }

    @Says(promise = 31, value = "NONE if never in these,")
    private static void neverSettled() {
        Check.same("61", Check.told("moves 0;counts (week=61)*999;" + ten("a", 1, 2, 0, 60)).settle(0, 2), -1);
        SoManyStairs x = Check.told(ten("a", 1, 2, 0, 60));
        Check.same("no breath for three", x.settle(0, 3), -1);
        Check.same("but for two", x.settle(0, 2), 2);
        // No more than 9999 can be paid: a owes it with ten months of debt, b one more.
        SoManyStairs y = Check.told(ten("a", 1, 40, 0, 909) + "counts 999;");
        Check.weeks(y, 40);
        Check.same("just 9999", y.settle(0, 1), 0);
        SoManyStairs z = Check.told(ten("a", 1, 40, 0, 625) + "counts 999;");
        Check.weeks(z, 60);
        Check.same("10000: paid, when rents fall due, all but one", z.settle(0, 1), 4);
    }

    @Says(promise = 31, value = "or one can't be.")
    private static void settleThatCannotBe() {
        SoManyStairs x = busy();
        for (int never : Check.NEVER) {
            Check.same("tenant " + never, x.settle(never, 1), -1);
            Check.same("storeys " + never, x.settle(0, never), -1);
        }
        int[][] wrong = {{-1, 1}, {3, 1}, {0, 0}, {0, -1}, {0, 10}};
        for (int[] w : wrong) {
            Check.same("settle", x.settle(w[0], w[1]), -1);
        }
        Check.same("nothing owed, but no such storeys", Check.told(ten("a", 1, 1, 0, 0)).settle(0, 0), -1);
    }

    @Says(promise = 32, value = "Where the lift is behind 60 WEEKS, if so many storeys (0 .. 999) "
            + "are climbed in each (this one, too: so many in all);")
    private static void hoverFromNoneTo999() {
        SoManyStairs x = lift(20, 10, "climbed-5");
        x.climb(0, 9, -1, 0);
        Check.same("none", x.hover(0), 0);
        Check.same("four", x.hover(4), 0);
        Check.same("five, whatever was climbed", x.hover(5), 10);
        Check.same("six", x.hover(6), 20);
        Check.same("999", x.hover(999), 20);
        Check.same("just 999", lift(20, 10, "climbed-999").hover(999), 10);
        Check.same("in the first week, too", lift(20, 0, "(week=0)*climbed").hover(7), 7);
        Check.same("in the 60th", lift(20, 0, "(week=59)*climbed").hover(7), 7);
        Check.same("not in the 61st", lift(20, 0, "(week=60)*climbed").hover(7), 0);
    }

    @Says(promise = 32, value = "NONE for another number.")
    private static void hoverOfAnotherNumber() {
        SoManyStairs x = lift(20, 10, "1");
        for (int n : new int[] {-1, 1000, -999, 65536, Integer.MIN_VALUE, Integer.MAX_VALUE}) {
            Check.same("hover(" + n + ")", x.hover(n), -1);
        }
    }

    @Says(promise = 33, value = "DEBTS of all together behind n WEEKS (0 .. 60), nobody climbing;")
    private static void ruinFromNoneToSixty() {
        Check.same("nobody", new SoManyStairs().ruin(60), 0);
        SoManyStairs x = Check.told(ten("a", 1, 9, 0, 30) + ten("b", 1, 9, 0, 50));
        x.climb(0, 9, -1, 0);
        x.climb(1, 6, -1, 0);
        // 90 and 60 are paid: a pays three months of it, b one and ten more.
        int[] due = {0, 0, 0, 0, 0, 0, 0, 0, 40, 40, 40, 40, 90, 90, 90, 90, 170};
        for (int n = 0; n < due.length; n++) {
            Check.same("ruin(" + n + ")", x.ruin(n), due[n]);
        }
        Check.same("ruin(59)", x.ruin(59), 14 * 80 - 150);
        Check.same("ruin(60)", x.ruin(60), 15 * 80 - 150);
        Check.weeks(x, 9);
        Check.same("as it is", x.ruin(0), 40);
        Check.same("behind three more", x.ruin(3), 90);
    }

    @Says(promise = 33, value = "NONE for another n.")
    private static void ruinForAnotherNumber() {
        SoManyStairs x = busy();
        for (int n : new int[] {-1, 61, -60, 100, Integer.MIN_VALUE, Integer.MAX_VALUE}) {
            Check.same("ruin(" + n + ")", x.ruin(n), -1);
        }
    }

    // ---- TEAM, quarrels, houses

    @Says("TEAM: the fewest TENANTS whose BREATH together is so many storeys at least; of like ones the least set as bits.")
    private static void fewestThenLeastSet() {
        SoManyStairs x = Check.told(ten("a", 1, 5, 0, 0) + ten("b", 1, 9, 0, 0) + ten("c", 1, 9, 0, 0) + ten("d", 1, 6, 0, 0));
        int[][] due = {{1, 1, 1}, {5, 1, 1}, {6, 1, 2}, {9, 1, 2}, {10, 2, 3}, {14, 2, 3}, {15, 2, 6}, {18, 2, 6}, {19, 3, 7}, {23, 3, 7},
            {24, 3, 14}, {25, 4, 15}, {29, 4, 15}};
        for (int[] d : due) {
            Check.same("team(" + d[0] + ", 0)", x.team(d[0], 0), d[1]);
            Check.same("team(" + d[0] + ", 1)", x.team(d[0], 1), d[2]);
        }
        x.climb(1, 1, -1, 0);
        Check.same("breath as it is now", x.team(9, 1), 4);
        Check.same("together, too", x.team(18, 0), 3);
    }

    @Says(promise = 34, value = "TEAM (0 .. 400 storeys) what 0: how many, 1: which, as bits;")
    private static void teamFromNoneTo400() {
        StringBuilder eight = new StringBuilder();
        for (int i = 0; i < 8; i++) {
            eight.append(ten("" + (char) ('a' + i), 1, 40, 0, 0));
        }
        SoManyStairs x = Check.told(eight.toString());
        Check.same("none", x.team(0, 0), 0);
        Check.same("which", x.team(0, 1), 0);
        Check.same("all", x.team(320, 0), 8);
        Check.same("which", x.team(320, 1), 255);
        Check.same("nobody needs to be there", new SoManyStairs().team(0, 0), 0);
        Check.same("which", new SoManyStairs().team(0, 1), 0);
    }

    @Says(promise = 34, value = "NONE if all are not enough,")
    private static void allAreNotEnough() {
        SoManyStairs x = Check.told(ten("a", 1, 5, 0, 0) + ten("b", 1, 9, 0, 0));
        for (int what = 0; what < 2; what++) {
            Check.same("15", x.team(15, what), -1);
            Check.same("400", x.team(400, what), -1);
            Check.same("nobody", new SoManyStairs().team(1, what), -1);
        }
        Check.same("14", x.team(14, 0), 2);
        x.climb(0, 1, -1, 0);
        Check.same("14 of 13", x.team(14, 0), -1);
    }

    @Says(promise = 34, value = "or one can't be.")
    private static void teamThatCannotBe() {
        SoManyStairs x = busy();
        for (int n : new int[] {-1, 401, Integer.MIN_VALUE, Integer.MAX_VALUE}) {
            Check.same("team(" + n + ", 0)", x.team(n, 0), -1);
            Check.same("team(" + n + ", 1)", x.team(n, 1), -1);
        }
        for (int never : Check.NEVER) {
            Check.same("team(1, " + never + ")", x.team(1, never), -1);
            Check.same("team(0, " + never + ")", x.team(0, never), -1);
        }
        Check.same("team(1, -1)", x.team(1, -1), -1);
        Check.same("team(1, 2)", x.team(1, 2), -1);
    }

    @Says(promise = 35, value = "How many ENVIES there are.")
    private static void enviesOfAll() {
        Check.same("nobody", new SoManyStairs().quarrel(), 0);
        StringBuilder eight = new StringBuilder();
        for (int i = 0; i < 8; i++) {
            eight.append(ten("" + (char) ('a' + i), 5, 1, 0, 100 - i));
        }
        Check.same("each all behind him", Check.told(eight.toString()).quarrel(), 28);
        Check.same("like ones", Check.told(ten("a", 5, 1, 0, 5) + ten("b", 5, 1, 0, 5)).quarrel(), 0);
        Check.same("the first is envied", Check.told(ten("a", 5, 1, 0, 4) + ten("b", 5, 1, 0, 5)).quarrel(), 1);
    }

    private static void calm(String what, SoManyStairs x, int one, int other, int left) {
        Check.same(what + ", one", x.calm(0), one);
        Check.same(what + ", other", x.calm(1), other);
        Check.same(what + ", left", x.calm(2), left);
    }

    @Says("of like ones the first (the lesser number, then the other one), if it is fewer than now.")
    private static void theFirstExchange() {
        // a envies b and c, who owe less and live lower; either exchange leaves one envy.
        SoManyStairs x = Check.told(ten("a", 3, 1, 0, 50) + ten("b", 2, 1, 0, 40) + ten("c", 2, 1, 0, 40));
        calm("the other one is the lesser", x, 0, 1, 1);
        // a and b envy c alike, either exchange leaves one envy.
        SoManyStairs y = Check.told(ten("a", 3, 1, 0, 50) + ten("b", 3, 1, 0, 50) + ten("c", 2, 1, 0, 40));
        calm("the lesser number", y, 0, 2, 1);
        SoManyStairs z = Check.told(ten("a", 5, 1, 0, 50) + ten("b", 4, 1, 0, 40));
        calm("none is left", z, 0, 1, 0);
    }

    @Says(promise = 36, value = "CALM what 0: the first one, 1: the other one, 2: how many ENVIES are left; NONE if none is,")
    private static void noCalm() {
        calm("nobody", new SoManyStairs(), -1, -1, -1);
        calm("one", Check.told(ten("a", 5, 1, 0, 40)), -1, -1, -1);
        calm("no envy", Check.told(ten("a", 5, 1, 0, 40) + ten("b", 6, 1, 0, 30)), -1, -1, -1);
        // Both live as low: an exchange changes nothing.
        calm("as many as now", Check.told(ten("a", 5, 1, 0, 50) + ten("b", 5, 1, 0, 40)), -1, -1, -1);
    }

    @Says(promise = 36, value = "or for another what.")
    private static void calmOfAnotherWhat() {
        SoManyStairs x = Check.told(ten("a", 5, 1, 0, 50) + ten("b", 4, 1, 0, 40));
        for (int never : Check.NEVER) {
            Check.same("calm(" + never + ")", x.calm(never), -1);
        }
        Check.same("calm(-1)", x.calm(-1), -1);
        Check.same("calm(3)", x.calm(3), -1);
    }

    @Says("LADDER: the most that CLIMBS of one this week, alone, by day, as many as he will, can COUNT together.")
    private static void asManyAsHeWill() {
        SoManyStairs x = Check.told("storeys 6;" + ten("a", 1, 40, 0, 0) + ten("b", 1, 0, 0, 0) + "counts 9999-night*9999-heavy*9999;");
        Check.same("forty by 999, more than can be paid", x.ladder(0), 39960);
        Check.same("no breath", x.ladder(1), 0);
        x.climb(0, 6, -1, 0);
        Check.same("34 by 999", x.ladder(0), 33966);
        Check.same("paid has nothing to do with it", x.tenant(0, 6), 999);
        SoManyStairs y = Check.told(ten("a", 1, 6, 0, 0) + "counts (climbed=4)*storeys*10+(climbed=5)*3;");
        Check.same("four, then two", y.ladder(0), 20);
        SoManyStairs z = Check.told("storeys 6;" + ten("a", 1, 20, 0, 0) + "counts (storeys=3)*40+(storeys=1)*2;");
        Check.same("six threes and two ones", z.ladder(0), 244);
        Check.same("nothing counts", Check.told(ten("a", 1, 40, 0, 0) + "counts 0;").ladder(0), 0);
        // All breath need not be used.
        Check.same("one storey alone", Check.told(ten("a", 1, 40, 0, 0) + "counts climbed=0;").ladder(0), 1);
        SoManyStairs w = Check.told("storeys 2;" + ten("a", 1, 9, 0, 0) + "counts (storeys>2)*99+storeys;");
        Check.same("not more than all at once", w.ladder(0), 9);
    }

    @Says(promise = 37, value = "LADDER; NONE if there is none such.")
    private static void ladderOfNobody() {
        SoManyStairs x = busy();
        for (int never : Check.NEVER) {
            Check.same("ladder(" + never + ")", x.ladder(never), -1);
        }
        Check.same("ladder(-1)", x.ladder(-1), -1);
        Check.same("ladder(3)", x.ladder(3), -1);
    }

    @Says(promise = 38, value = "The difference of the most and the least that a month costs anybody now;")
    private static void spreadAtTheBounds() {
        Check.same("one", Check.told(ten("a", 9, 1, 0, 999)).spread(), 0);
        Check.same("one on the ground, who owes nothing", Check.told(ten("a", 0, 1, 0, 0)).spread(), 0);
        Check.same("the most there can be", Check.told("storeys 20;" + ten("a", 20, 1, 0, 999) + ten("b", 0, 1, 0, 0)).spread(), 1599);
        Check.same("all at the most", Check.told("storeys 20;" + ten("a", 20, 1, 0, 999) + ten("b", 20, 1, 0, 999)).spread(), 0);
        String[] three = {ten("a", 9, 1, 0, 100), ten("b", 0, 1, 0, 250), ten("c", 4, 1, 0, 60)};
        Check.same("the last is the least", Check.told(three[0] + three[1] + three[2]).spread(), 190);
        Check.same("the last is the most", Check.told(three[2] + three[1] + three[0]).spread(), 190);
    }

    @Says(promise = 38, value = "NONE without TENANTS.")
    private static void spreadOfNobody() {
        Check.same("nobody", new SoManyStairs().spread(), -1);
    }

    @Says(promise = 39, value = "TENANTS who live on a storey, as bits;")
    private static void whoLivesOnAStorey() {
        StringBuilder eight = new StringBuilder("storeys 20;");
        for (int i = 0; i < 8; i++) {
            eight.append(ten("" + (char) ('a' + i), i < 3 ? 20 : i < 7 ? 0 : 10, 1, 0, 0));
        }
        SoManyStairs x = Check.told(eight.toString());
        Check.same("at the top", x.live(20), 7);
        Check.same("on the ground", x.live(0), 8 + 16 + 32 + 64);
        Check.same("between", x.live(10), 128);
        Check.same("nobody", x.live(19), 0);
    }

    @Says(promise = 39, value = "NONE if there is none such.")
    private static void noSuchStorey() {
        SoManyStairs x = Check.told("storeys 5;" + ten("a", 5, 1, 0, 0));
        for (int never : Check.NEVER) {
            Check.same("live(" + never + ")", x.live(never), -1);
        }
        Check.same("live(-1)", x.live(-1), -1);
        Check.same("live(6)", x.live(6), -1);
        Check.same("a storey, though nobody lives there", x.live(0), 0);
        Check.same("without tenants", new SoManyStairs().live(9), 0);
    }

    @Says(promise = 40, value = "The i-th number of what lies there; -2 if there is none such.")
    private static void whatLiesThere() {
        SoManyStairs x = Check.told(ten("a", 3, 9, 0, 20) + ten("b", 2, 9, 0, 20));
        Check.same("nothing yet", x.lies(0), -2);
        x.let();
        Check.lies("two", x, 2, 3);
        for (int never : Check.NEVER) {
            Check.same("lies(" + never + ")", x.lies(never), -2);
        }
        Check.same("lies(-1)", x.lies(-1), -2);
        x.fewest(0);
        Check.lies("one of the latest alone", x, 2);
        x.climb(0, 2, -1, 0);
        x.week();
        x.undo();
        x.image(0);
        x.back(0);
        Check.lies("it stays", x, 2);
        x.proxy();
        Check.same("NONE lies there, too", x.lies(0), -1);
        StringBuilder eight = new StringBuilder();
        for (int i = 0; i < 8; i++) {
            eight.append(ten("" + (char) ('a' + i), i, 1, 0, 0));
        }
        SoManyStairs y = Check.told(eight.toString());
        y.let();
        Check.lies("eight", y, 0, 1, 2, 3, 4, 5, 6, 7);
    }
}
