/** Promises 13 to 40: what is asked of a state, by values found by hand. */
public final class AskTest {
    private static final int MIN = Integer.MIN_VALUE;
    private static final int MAX = Integer.MAX_VALUE;

    public static void main(String[] args) {
        promise13();
        promise14();
        promise15();
        promise16();
        promise17();
        promise18();
        promise19();
        promise20();
        promise21();
        promise22();
        promise23();
        promise24();
        promise25();
        promise26();
        promise27();
        promise28();
        promise29();
        promise30();
        promise31();
        promise32();
        promise33();
        promise34();
        promise35();
        promise36();
        promise37();
        promise38();
        promise39();
        promise40();
        nothingIsDone();
        Check.end("AskTest");
    }

    private static String tenant(String name, int on, int strong, int heavy, int owes) {
        return Check.tenant(name, on, strong, heavy, owes);
    }

    private static void promise13() {
        SoManyStairs x = Check.told(tenant("a", 1, 20, 0, 100) + tenant("b", 1, 40, 0, 361) + tenant("c", 1, 9, 0, 0)
                + tenant("d", 1, 40, 0, 360) + tenant("e", 1, 9, 0, 100));
        Check.same("two climbs, ten storeys", x.fewest(0), 2);
        Check.lies("the first row", x, 1, 9);
        Check.same("four climbs count 360 at most", x.fewest(1), -1);
        Check.lies("nothing", x);
        Check.same("four", x.fewest(3), 4);
        Check.lies("four nines", x, 9, 9, 9, 9);
        Check.same("none needed", x.fewest(2), 0);
        Check.lies("no climbs", x);
        Check.same("no breath for it", x.fewest(4), -1);
        x.fewest(0);
        for (int none : new int[] {-1, 5, MIN, MAX}) {
            Check.same("no tenant", x.fewest(none), -1);
        }
        Check.lies("behind NONE", x);
        // Fewest climbs go ahead of fewest storeys, these ahead of the first row.
        SoManyStairs y = Check.told("storeys 5;" + tenant("a", 1, 20, 0, 50)
                + "counts (storeys=1)*20+(storeys=2)*25+(storeys=5)*50;");
        Check.same("one climb of five", y.fewest(0), 1);
        Check.lies("not of two twos", y, 5);
        SoManyStairs z = Check.told("storeys 5;" + tenant("a", 1, 20, 0, 45)
                + "counts (storeys=1)*20+(storeys=2)*25+(storeys=4)*30;");
        Check.same("two", z.fewest(0), 2);
        Check.lies("1 and 2", z, 1, 2);
        // What is climbed ahead counts: only behind two storeys a climb is worth something.
        SoManyStairs w = Check.told("storeys 5;" + tenant("a", 1, 20, 0, 45) + tenant("b", 1, 9, 0, 45)
                + "counts (climbed=2)*50;");
        Check.same("two climbs", w.fewest(0), 2);
        Check.lies("2 and 1", w, 2, 1);
        w.climb(1, 1, -1, 0);
        w.fewest(0);
        Check.lies("1 and 1", w, 1, 1);
        w.climb(1, 1, -1, 0);
        w.fewest(0);
        Check.lies("1", w, 1);
        w.climb(1, 1, -1, 0);
        Check.same("too late", w.fewest(0), -1);
        // PAID is 9999 at most, so no climb pays more of rent and debt.
        SoManyStairs v = Check.told(tenant("a", 1, 40, 0, 999) + tenant("b", 1, 40, 0, 833) + "counts 999;");
        for (int i = 0; i < 40; i++) {
            v.week();
        }
        for (int i = 0; i < 10; i++) {
            v.climb(0, 1, -1, 0);
            v.climb(1, 1, -1, 0);
        }
        Check.same("999 are lacking", v.tenant(0, 8), 999);
        Check.same("above the bound", v.fewest(0), -1);
        Check.same("nothing is", v.fewest(1), 0);
        SoManyStairs u = Check.told(tenant("a", 1, 40, 0, 909) + "counts 999;");
        for (int i = 0; i < 40; i++) {
            u.week();
        }
        for (int i = 0; i < 7; i++) {
            u.climb(0, 1, -1, 0);
        }
        Check.same("9999 - 6993", u.tenant(0, 8), 3006);
        Check.same("four climbs fill it", u.fewest(0), 4);
    }

    private static void promise14() {
        SoManyStairs x = Check.told("storeys 6;" + tenant("a", 1, 20, 2, 0) + tenant("b", 1, 7, 3, 0)
                + tenant("c", 1, 0, 9, 0));
        Check.same("heavy 3: two a storey", x.carries(0, 1), 6);
        Check.same("heavy 9: four a storey", x.carries(0, 2), 5);
        Check.same("heavy 2: one", x.carries(1, 0), 6);
        Check.same("7 by 4", x.carries(1, 2), 1);
        Check.same("no breath", x.carries(2, 0), 0);
        x.climb(0, 6, -1, 0);
        x.climb(0, 3, -1, 0);
        Check.same("11 by 4", x.carries(0, 2), 2);
        Check.same("himself", x.carries(0, 0), -1);
        for (int none : new int[] {-1, 3, MIN, MAX}) {
            Check.same("no tenant", x.carries(none, 0), -1);
            Check.same("no other", x.carries(0, none), -1);
        }
    }

    private static void promise15() {
        SoManyStairs empty = new SoManyStairs();
        Check.same("nobody", empty.care(), 0);
        Check.lies("nobody", empty);
        SoManyStairs x = Check.told(tenant("a", 3, 10, 0, 0) + tenant("b", 9, 10, 0, 0) + tenant("c", 0, 10, 0, 0));
        Check.same("both above the ground", x.care(), 2);
        Check.lies("a by b, b by a", x, 1, 0, -1);
        // Only b can carry c, so a has to do with c.
        SoManyStairs y = Check.told(tenant("a", 1, 0, 0, 0) + tenant("b", 0, 9, 0, 0) + tenant("c", 9, 1, 0, 0));
        Check.same("the most", y.care(), 2);
        Check.lies("not a by b alone", y, 2, -1, 1);
        // Who is heavy takes more breath; of like ones the first are carried by the least numbers.
        SoManyStairs z = Check.told(tenant("a", 4, 8, 6, 0) + tenant("b", 4, 8, 3, 0) + tenant("c", 4, 3, 0, 0));
        Check.same("c can carry nobody, nobody a", z.care(), 2);
        Check.lies("b by a, c by b", z, -1, 0, 1);
        z.climb(0, 1, -1, 0);
        Check.same("a has 7 left", z.care(), 1);
        Check.lies("c by a", z, -1, -1, 0);
    }

    private static void promise16() {
        SoManyStairs x = Check.told(tenant("a", 1, 40, 0, 30) + tenant("b", 1, 40, 0, 10) + tenant("c", 1, 40, 0, 70)
                + tenant("d", 1, 40, 0, 50));
        Check.same("nobody has more", x.gifts(0), 0);
        Check.same("nothing", x.gifts(1), 0);
        Check.same("all lack", x.gifts(2), 160);
        x.climb(1, 5, -1, 0);
        x.climb(3, 9, -1, 0);
        // b has 40 more: 30 to a, 10 to c; d has 40 more: to c.
        Check.same("how many", x.gifts(0), 3);
        Check.same("in all", x.gifts(1), 80);
        Check.same("left", x.gifts(2), 20);
        Check.same("another what", x.gifts(3), -1);
        Check.same("another what", x.gifts(-1), -1);
        Check.same("nothing is given", x.tenant(1, 6), 50);
        // Who has 9999 gets none: a owes 11988 by now.
        SoManyStairs y = Check.told(tenant("a", 1, 40, 0, 999) + tenant("b", 1, 40, 0, 20) + tenant("c", 1, 40, 0, 0)
                + tenant("d", 1, 40, 0, 30) + "counts 999;");
        for (int i = 0; i < 44; i++) {
            y.week();
        }
        for (int i = 0; i < 4; i++) {
            y.climb(0, 9, -1, 0);
            y.climb(2, 9, -1, 0);
        }
        Check.same("a lacks", y.tenant(0, 8), 11988 - 3996);
        Check.same("all that c has, to a", y.gifts(1), 3996);
        Check.same("once", y.gifts(0), 1);
        y.give(2, 0, 3990);
        Check.same("the rest", y.gifts(1), 6);
        for (int i = 0; i < 3; i++) {
            y.climb(1, 9, -1, 0);
        }
        // b has 2997 - 240 more than it needs: 2013 make a's 9999, then 360 are d's; c needs not give.
        Check.same("times", y.gifts(0), 2);
        Check.same("in all", y.gifts(1), 2013 + 360);
        Check.same("left", y.gifts(2), 11988 - 9999);
    }

    private static void promise17() {
        SoManyStairs x = Check.told(tenant("a", 5, 1, 0, 50) + tenant("b", 5, 1, 0, 40) + tenant("c", 2, 1, 0, 50)
                + tenant("d", 1, 1, 0, 10) + tenant("e", 6, 1, 0, 5));
        Check.same("b as low, d lower; c owes as much, e lives higher", x.envies(0), 2 + 8);
        Check.same("b: d", x.envies(1), 8);
        Check.same("c: d", x.envies(2), 8);
        Check.same("d: nobody", x.envies(3), 0);
        Check.same("e: nobody owes less", x.envies(4), 0);
        for (int none : new int[] {-1, 5, MIN, MAX}) {
            Check.same("no tenant", x.envies(none), -1);
        }
    }

    private static void promise18() {
        SoManyStairs empty = new SoManyStairs();
        Check.same("without tenants", empty.let(), -1);
        Check.lies("nothing", empty);
        SoManyStairs x = Check.told(tenant("a", 9, 1, 0, 0) + tenant("b", 0, 1, 0, 270) + tenant("c", 3, 1, 0, 180));
        Check.same("as even as can be", x.let(), 0);
        Check.lies("a 9, b 0, c 3", x, 9, 0, 3);
        SoManyStairs y = Check.told(tenant("a", 0, 1, 0, 0) + tenant("b", 9, 1, 0, 270));
        Check.same("exchanged", y.let(), 0);
        Check.lies("who owes more lives lower", y, 9, 0);
        SoManyStairs z = Check.told(tenant("a", 2, 1, 0, 10) + tenant("b", 1, 1, 0, 0) + tenant("c", 0, 1, 0, 500));
        Check.same("500 and 40", z.let(), 460);
        Check.lies("the lowest for a: 40, b 60, c 500", z, 1, 2, 0);
        SoManyStairs one = Check.told(tenant("a", 7, 1, 0, 10));
        Check.same("one", one.let(), 0);
        Check.lies("one", one, 7);
        SoManyStairs like = Check.told(tenant("a", 4, 1, 0, 10) + tenant("b", 2, 1, 0, 10));
        Check.same("like rents", like.let(), 60);
        Check.lies("the first has the lowest", like, 2, 4);
        Check.same("nobody has moved", like.tenant(0, 0), 4);
    }

    private static void promise19() {
        SoManyStairs x = Check.told(tenant("a", 9, 1, 0, 100) + tenant("b", 0, 1, 0, 7));
        Check.same("a", x.month(0), 370);
        Check.same("b", x.month(1), 7);
        for (int none : new int[] {-1, 2, MIN, MAX}) {
            Check.same("no tenant", x.month(none), -1);
        }
    }

    private static SoManyStairs lift(int all, int lift, String moves) {
        return Check.told("storeys " + all + " lift " + lift + ";moves " + moves + ";" + tenant("a", 1, 40, 3, 20));
    }

    private static void promise20() {
        Check.same("it rests already", new SoManyStairs().rest(), 0);
        Check.same("three weeks up", lift(5, 2, "1").rest(), 3);
        Check.same("two down", lift(5, 2, "0-1").rest(), 2);
        Check.same("to and fro", lift(5, 2, "1-week%2*2").rest(), -1);
        Check.same("by the week", lift(20, 0, "(week<60)*(1-week%2*2)").rest(), 60);
        Check.same("one week more", lift(20, 0, "(week<61)*(1-week%2*2)").rest(), -1);
        // What is climbed this week moves it, then nobody climbs.
        SoManyStairs x = lift(9, 0, "climbed");
        x.climb(0, 4, -1, 0);
        Check.same("a week on, it rests", x.rest(), 1);
    }

    private static void promise21() {
        SoManyStairs x = lift(9, 4, "2-climbed+heavy-3");
        x.climb(0, 5, -1, 0);
        int[] due = {4, 1, 3, 5, 7, 9, 9};
        for (int n = 0; n < due.length; n++) {
            Check.same("will(" + n + ")", x.will(n), due[n]);
        }
        Check.same("will(60)", x.will(60), 9);
        for (int none : new int[] {-1, 61, MIN, MAX}) {
            Check.same("another n", x.will(none), -1);
        }
    }

    private static void promise22() {
        Check.same("not told", new SoManyStairs().pull(), 0);
        Check.same("below 0", lift(5, 2, "0-7").pull(), -7);
        Check.same("more than there are", lift(5, 2, "1000").pull(), 1000);
        Check.same("by all", lift(5, 2, "storeys*100+heavy*10+lift+night*9999+week").pull(), 532);
        SoManyStairs x = lift(5, 2, "climbed*7");
        x.climb(0, 3, -1, 0);
        Check.same("climbed", x.pull(), 21);
        Check.same("it wraps", lift(5, 2, "9999*9999*9999").pull(), 9999 * 9999 * 9999);
    }

    private static void promise23() {
        Check.same("ten are needed", new SoManyStairs().lever(), 10);
        Check.same("it goes up anyhow", lift(5, 2, "1").lever(), 0);
        Check.same("it can't get higher", lift(5, 5, "climbed").lever(), -1);
        Check.same("99 more", lift(5, 2, "climbed>98").lever(), 99);
        Check.same("100 more are too many", lift(5, 2, "climbed>99").lever(), -1);
        Check.same("the fewest", lift(5, 2, "(climbed=7)+(climbed>20)").lever(), 7);
        SoManyStairs x = lift(5, 2, "climbed/10-1");
        x.climb(0, 5, -1, 0);
        x.climb(0, 3, -1, 0);
        Check.same("so many more", x.lever(), 12);
    }

    private static void promise24() {
        SoManyStairs x = Check.told("tenant a on 1 strong 1 heavy 1 owes 1;"
                + "tenant b on 1 strong 1 heavy 1 owes 1 fails 100;tenant c on 1 strong 1 heavy 1 owes 1 fails 20;"
                + "tenant d on 1 strong 1 heavy 1 owes 1 fails 1;");
        int[][] due = {{0, 4, 4, 1, 1}, {0, 0, 0, 1, 1}, {1, 0, 0, 1, 1}, {1, 1, 0, 1, 1}, {1, 1, 1, 0, 1}, {1, 4, 2, 0, 1},
            {2, 1, 1, 4, 5}, {2, 2, 2, 16, 25}, {2, 2, 1, 24, 25}, {2, 3, 2, 112, 125}, {2, 4, 3, 512, 625},
            {3, 4, 4, 96059601, 100000000}, {3, 4, 1, 99999999, 100000000}, {3, 2, 1, 9999, 10000}};
        for (int[] d : due) {
            Check.same("upper", x.odds(d[0], d[1], d[2], 0), d[3]);
            Check.same("lower", x.odds(d[0], d[1], d[2], 1), d[4]);
        }
        int[][] wrong = {{-1, 1, 1, 0}, {4, 1, 1, 0}, {0, -1, 0, 0}, {0, 5, 1, 0}, {0, 1, -1, 0}, {0, 1, 2, 0}, {0, 1, 1, 2},
            {0, 1, 1, -1}, {MIN, MIN, MIN, MIN}, {MAX, MAX, MAX, MAX}};
        for (int[] w : wrong) {
            Check.same("odds", x.odds(w[0], w[1], w[2], w[3]), -1);
        }
    }

    private static SoManyStairs lacking() {
        SoManyStairs x = Check.told(tenant("a", 1, 9, 0, 30) + tenant("b", 1, 9, 0, 50) + tenant("c", 1, 9, 0, 50)
                + tenant("d", 1, 9, 0, 0));
        return x;
    }

    private static void promise25() {
        Check.same("nobody", new SoManyStairs().poorest(), -1);
        SoManyStairs x = lacking();
        Check.same("of like ones the first", x.poorest(), 1);
        x.climb(1, 1, -1, 0);
        Check.same("c then", x.poorest(), 2);
        x.climb(1, 8, -1, 0);
        x.climb(2, 9, -1, 0);
        Check.same("a then", x.poorest(), 0);
        x.climb(0, 3, -1, 0);
        Check.same("no lacks at all", x.poorest(), 0);
    }

    private static void promise26() {
        Check.same("nobody", new SoManyStairs().owing(), 0);
        SoManyStairs x = lacking();
        Check.same("all but d", x.owing(), 7);
        x.climb(1, 5, -1, 0);
        Check.same("not b", x.owing(), 5);
        for (int i = 0; i < 4; i++) {
            x.week();
        }
        Check.same("all but d once more", x.owing(), 7);
    }

    private static void promise27() {
        Check.same("nobody", new SoManyStairs().law(999), 0);
        SoManyStairs x = lacking();
        Check.same("as it is", x.law(0), 3);
        Check.same("one more", x.law(1), 4);
        Check.same("30 less", x.law(-30), 2);
        Check.same("999 less", x.law(-999), 0);
        Check.same("999 more", x.law(999), 4);
        x.climb(0, 4, -1, 0);
        Check.same("a has paid 40", x.law(10), 3);
        Check.same("one above", x.law(11), 4);
        for (int i = 0; i < 4; i++) {
            x.week();
        }
        // Debt stays, whatever one owes: b and c have 50 of it.
        Check.same("nothing owed", x.law(-999), 2);
        for (int none : new int[] {-1000, 1000, MIN, MAX}) {
            Check.same("another n", x.law(none), -1);
        }
    }

    private static void promise28() {
        SoManyStairs x = Check.told("storeys 7;" + tenant("a", 1, 6, 0, 0) + tenant("b", 1, 40, 0, 0)
                + "counts storeys*storeys*(1-night)+night*(storeys+6);" + tenant("c", 1, 0, 0, 0));
        Check.same("6 by 6", x.stride(0, 0), 6);
        Check.same("7 by 7", x.stride(1, 0), 7);
        Check.same("7 for the first", x.stride(1, 1), 1);
        Check.same("no breath", x.stride(2, 0), -1);
        x.climb(0, 2, -1, 0);
        Check.same("breath for 4", x.stride(0, 0), 4);
        for (int none : new int[] {-1, 3, MIN, MAX}) {
            Check.same("no tenant", x.stride(none, 0), -1);
        }
        for (int none : new int[] {-1, 2, MIN, MAX}) {
            Check.same("no time", x.stride(0, none), -1);
        }
        // 5 of 2 and 7 of 3 and 3 of 1: compared exactly, 3 and 6 of 2 alike.
        SoManyStairs y = Check.told(tenant("a", 1, 9, 0, 0) + "counts (storeys=2)*5+(storeys=3)*8+(storeys=5)*13;");
        Check.same("8 of 3 against 13 of 5", y.stride(0, 0), 3);
        SoManyStairs z = Check.told(tenant("a", 1, 9, 0, 0) + "counts (storeys=2)*5+(storeys=4)*10;");
        Check.same("of like ones the fewest", z.stride(0, 0), 2);
        Check.same("nothing counts", Check.told(tenant("a", 1, 9, 0, 0) + "counts 0;").stride(0, 1), 1);
    }

    private static void promise29() {
        SoManyStairs empty = new SoManyStairs();
        Check.same("nobody", empty.proxy(), 0);
        Check.lies("nobody", empty);
        SoManyStairs x = Check.told(tenant("a", 1, 3, 0, 50) + tenant("b", 1, 5, 0, 30) + tenant("c", 1, 9, 0, 90)
                + tenant("d", 1, 1, 0, 0));
        // a needs 5: b or c; b needs 3: a or c; c needs 9: nobody else has them.
        Check.same("two", x.proxy(), 2);
        Check.lies("a by b, b by a", x, 1, 0, -1, -1);
        x.climb(1, 1, -1, 0);
        Check.same("b has 4 left", x.proxy(), 2);
        Check.lies("a by c, b by a", x, 2, 0, -1, -1);
        // Only one can climb: for whom it takes fewer storeys.
        SoManyStairs y = Check.told(tenant("a", 1, 0, 0, 60) + tenant("b", 1, 0, 0, 40) + tenant("c", 1, 9, 0, 0));
        Check.same("one", y.proxy(), 1);
        Check.lies("b by c", y, -1, 2, -1);
        SoManyStairs z = Check.told(tenant("a", 1, 0, 0, 40) + tenant("b", 1, 0, 0, 40) + tenant("c", 1, 9, 0, 0)
                + tenant("d", 1, 1, 0, 0));
        Check.same("one", z.proxy(), 1);
        Check.lies("of like ones the first", z, 2, -1, -1, -1);
        // The fewest storeys that count so much, even if more count less.
        SoManyStairs w = Check.told(tenant("a", 1, 0, 0, 40) + tenant("b", 1, 9, 0, 0)
                + "counts (storeys=3)*40+(storeys>6)*99;");
        Check.same("three", w.proxy(), 1);
        Check.same("toil", w.toil(), 3);
    }

    private static void promise30() {
        Check.same("nobody", new SoManyStairs().toil(), 0);
        SoManyStairs x = Check.told(tenant("a", 1, 3, 0, 50) + tenant("b", 1, 5, 0, 30) + tenant("c", 1, 9, 0, 90));
        Check.same("5 and 3", x.toil(), 8);
        x.fewest(0);
        Check.same("toil", x.toil(), 8);
        Check.same("it lays nothing", x.about(12), 0);
        x.climb(1, 1, -1, 0);
        Check.same("two for b", x.toil(), 7);
    }

    private static void promise31() {
        SoManyStairs x = Check.told(tenant("a", 1, 20, 0, 100) + tenant("b", 1, 2, 0, 60) + tenant("c", 1, 9, 0, 0)
                + tenant("d", 1, 1, 0, 10) + tenant("e", 1, 1, 0, 41));
        Check.same("this week", x.settle(0, 9), 0);
        Check.same("two weeks on", x.settle(1, 1), 2);
        Check.same("two weeks on by two", x.settle(1, 2), 2);
        Check.same("no breath for three", x.settle(1, 3), -1);
        Check.same("none needed", x.settle(2, 9), 0);
        Check.same("one is enough", x.settle(3, 1), 0);
        // Ten a week: 40 behind the third, then 41 fall due, and 41 once more are lacking.
        Check.same("it never gets ahead", x.settle(4, 1), -1);
        x.climb(0, 9, -1, 0);
        x.climb(0, 9, -1, 0);
        x.week();
        x.undo();
        x.give(0, 1, 180);
        Check.same("two left this week, ten in each other", x.settle(0, 1), 1);
        int[][] wrong = {{-1, 1}, {5, 1}, {0, 0}, {0, 10}, {0, -1}, {MIN, MAX}, {MAX, MIN}};
        for (int[] w : wrong) {
            Check.same("settle", x.settle(w[0], w[1]), -1);
        }
        // It counts in one week alone: behind 60 is looked at still, behind 61 no more.
        String start = "moves 0;counts (week=";
        Check.same("60", Check.told(start + "60)*999;" + tenant("a", 1, 2, 0, 60)).settle(0, 2), 60);
        Check.same("61", Check.told(start + "61)*999;" + tenant("a", 1, 2, 0, 60)).settle(0, 2), -1);
        // His climbs move the lift, by which they count.
        SoManyStairs y = Check.told("counts lift;moves climbed;" + tenant("a", 1, 3, 0, 20));
        Check.same("0, 9, 18, 27", y.settle(0, 1), 2);
    }

    private static void promise32() {
        Check.same("50 a week", new SoManyStairs().hover(50), 9);
        Check.same("nine are too few", new SoManyStairs().hover(9), 0);
        SoManyStairs x = lift(20, 10, "climbed-5");
        x.climb(0, 9, -1, 0);
        Check.same("five", x.hover(5), 10);
        Check.same("four", x.hover(4), 0);
        Check.same("six", x.hover(6), 20);
        Check.same("999", x.hover(999), 20);
        Check.same("60 weeks, not more", lift(20, 0, "(week=59)*3+(week=60)*5").hover(0), 3);
        for (int none : new int[] {-1, 1000, MIN, MAX}) {
            Check.same("another number", x.hover(none), -1);
        }
    }

    private static void promise33() {
        Check.same("nobody", new SoManyStairs().ruin(60), 0);
        SoManyStairs x = lacking();
        x.climb(0, 9, -1, 0);
        x.climb(1, 6, -1, 0);
        Check.same("now", x.ruin(0), 0);
        Check.same("behind three", x.ruin(3), 0);
        // a pays 30, b 50 of 60, c nothing; then a 30, b 10 more.
        Check.same("behind four", x.ruin(4), 50);
        Check.same("behind seven", x.ruin(7), 50);
        Check.same("behind eight", x.ruin(8), 100 + 40);
        Check.same("behind sixty", x.ruin(60), 15 * 30 - 90 + 15 * 50 - 60 + 15 * 50);
        x.week();
        Check.same("behind three of these", x.ruin(3), 50);
        for (int none : new int[] {-1, 61, MIN, MAX}) {
            Check.same("another n", x.ruin(none), -1);
        }
    }

    private static void promise34() {
        SoManyStairs x = Check.told(tenant("a", 1, 5, 0, 0) + tenant("b", 1, 9, 0, 0) + tenant("c", 1, 9, 0, 0)
                + tenant("d", 1, 6, 0, 0));
        int[][] due = {{0, 0, 0}, {1, 1, 1}, {5, 1, 1}, {6, 1, 2}, {9, 1, 2}, {10, 2, 3}, {14, 2, 3}, {15, 2, 6}, {18, 2, 6},
            {19, 3, 7}, {24, 3, 14}, {29, 4, 15}, {30, -1, -1}, {400, -1, -1}, {401, -1, -1}, {-1, -1, -1}, {MIN, -1, -1},
            {MAX, -1, -1}};
        for (int[] d : due) {
            Check.same("team(" + d[0] + ", 0)", x.team(d[0], 0), d[1]);
            Check.same("team(" + d[0] + ", 1)", x.team(d[0], 1), d[2]);
        }
        Check.same("another what", x.team(1, 2), -1);
        Check.same("another what", x.team(1, -1), -1);
        x.climb(1, 5, -1, 0);
        Check.same("breath now", x.team(9, 1), 4);
        Check.same("nobody", new SoManyStairs().team(0, 0), 0);
        Check.same("nobody", new SoManyStairs().team(1, 0), -1);
    }

    private static void promise35() {
        Check.same("nobody", new SoManyStairs().quarrel(), 0);
        SoManyStairs x = Check.told(tenant("a", 5, 1, 0, 50) + tenant("b", 5, 1, 0, 40) + tenant("c", 2, 1, 0, 50)
                + tenant("d", 1, 1, 0, 10) + tenant("e", 6, 1, 0, 5));
        Check.same("four", x.quarrel(), 4);
    }

    private static void promise36() {
        SoManyStairs x = Check.told(tenant("a", 5, 1, 0, 50) + tenant("b", 5, 1, 0, 40) + tenant("c", 2, 1, 0, 50)
                + tenant("d", 1, 1, 0, 10) + tenant("e", 6, 1, 0, 5));
        // a on 1 and d on 5: a envies nobody, b d, c nobody, d nobody, e nobody; no other exchange leaves fewer.
        Check.same("one", x.calm(0), 0);
        Check.same("other", x.calm(1), 3);
        Check.same("left", x.calm(2), 1);
        Check.same("another what", x.calm(3), -1);
        Check.same("another what", x.calm(-1), -1);
        SoManyStairs none = Check.told(tenant("a", 5, 1, 0, 40) + tenant("b", 5, 1, 0, 50));
        for (int what = 0; what < 3; what++) {
            Check.same("none is fewer", none.calm(what), -1);
            Check.same("nobody", new SoManyStairs().calm(what), -1);
        }
        SoManyStairs two = Check.told(tenant("a", 5, 1, 0, 50) + tenant("b", 4, 1, 0, 40));
        Check.same("one", two.calm(0), 0);
        Check.same("other", two.calm(1), 1);
        Check.same("none left", two.calm(2), 0);
        // Both exchanges with a leave one: the first is taken.
        SoManyStairs three = Check.told(tenant("a", 3, 1, 0, 50) + tenant("b", 2, 1, 0, 40) + tenant("c", 2, 1, 0, 40));
        Check.same("one", three.calm(0), 0);
        Check.same("other", three.calm(1), 1);
        Check.same("one left", three.calm(2), 1);
    }

    private static void promise37() {
        SoManyStairs x = Check.told("storeys 6;" + tenant("a", 1, 20, 0, 0) + tenant("b", 1, 0, 0, 0)
                + "counts (storeys=3)*40+(storeys=1)*2;");
        Check.same("six threes and two ones", x.ladder(0), 244);
        Check.same("no breath", x.ladder(1), 0);
        x.climb(0, 6, -1, 0);
        Check.same("four threes and two ones", x.ladder(0), 164);
        // By what is climbed as they come; the count has no bound but its own for each climb.
        SoManyStairs y = Check.told(tenant("a", 1, 40, 0, 0) + "counts 9999;");
        Check.same("forty by 999", y.ladder(0), 39960);
        SoManyStairs z = Check.told(tenant("a", 1, 6, 0, 0) + "counts (climbed=4)*storeys*10+(climbed=5)*3;");
        Check.same("four, then two", z.ladder(0), 20);
        z.climb(0, 3, -1, 0);
        Check.same("one, then two", z.ladder(0), 20);
        z.climb(0, 2, -1, 0);
        Check.same("one", z.ladder(0), 3);
        for (int none : new int[] {-1, 1, MIN, MAX}) {
            Check.same("no tenant", z.ladder(none), -1);
        }
    }

    private static void promise38() {
        Check.same("nobody", new SoManyStairs().spread(), -1);
        Check.same("one", Check.told(tenant("a", 9, 1, 0, 999)).spread(), 0);
        Check.same("370, 250, 180", Check.told(tenant("a", 9, 1, 0, 100) + tenant("b", 0, 1, 0, 250)
                + tenant("c", 4, 1, 0, 60)).spread(), 190);
        Check.same("at the bounds", Check.told("storeys 20;" + tenant("a", 20, 1, 0, 999) + tenant("b", 0, 1, 0, 0)).spread(),
                1599);
        Check.same("all at the highest", Check.told("storeys 20;" + tenant("a", 20, 1, 0, 999)
                + tenant("b", 20, 1, 0, 999)).spread(), 0);
    }

    private static void promise39() {
        SoManyStairs x = Check.told("storeys 5;" + tenant("a", 5, 1, 0, 0) + tenant("b", 0, 1, 0, 0) + tenant("c", 5, 1, 0, 0));
        Check.same("ground", x.live(0), 2);
        Check.same("top", x.live(5), 5);
        Check.same("nobody", x.live(3), 0);
        for (int none : new int[] {-1, 6, MIN, MAX}) {
            Check.same("no storey", x.live(none), -1);
        }
        Check.same("nine storeys", new SoManyStairs().live(9), 0);
    }

    private static void promise40() {
        SoManyStairs x = lacking();
        Check.same("nothing yet", x.lies(0), -2);
        x.let();
        Check.lies("all live on 1", x, 1, 1, 1, 1);
        for (int none : new int[] {-1, 4, 8, MIN, MAX}) {
            Check.same("none such", x.lies(none), -2);
        }
        x.proxy();
        Check.same("NONE is a number that lies there", x.lies(3), -1);
        x.fewest(0);
        Check.lies("one row alone", x, 3);
        x.climb(0, 1, -1, 0);
        x.undo();
        x.gifts(1);
        Check.lies("it stays", x, 3);
    }

    private static void nothingIsDone() {
        SoManyStairs x = Check.told("storeys 9 lift 3;" + tenant("a", 9, 20, 3, 100) + tenant("b", 2, 30, 6, 250)
                + "moves climbed/5-1;draw 9;");
        x.climb(0, 5, -1, 0);
        int[] before = new int[12];
        for (int i = 0; i < 12; i++) {
            before[i] = x.about(i);
        }
        x.fewest(0);
        x.carries(0, 1);
        x.care();
        x.gifts(2);
        x.let();
        x.rest();
        x.will(60);
        x.lever();
        x.proxy();
        x.toil();
        x.settle(0, 3);
        x.hover(40);
        x.ruin(60);
        x.calm(0);
        x.ladder(1);
        for (int i = 0; i < 12; i++) {
            Check.same("about " + i + " is as it was", x.about(i), before[i]);
        }
        Check.same("paid", x.tenant(0, 6), 50);
        Check.same("breath", x.tenant(0, 5), 15);
    }
}
