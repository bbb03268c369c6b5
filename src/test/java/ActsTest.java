/** Promises 6 to 12, 48 and 49: TENANTS, CLIMBS, gifts, WEEKS, UNDO and REDO, BOXES. */
public final class ActsTest {
    private static final int MIN = Integer.MIN_VALUE;
    private static final int MAX = Integer.MAX_VALUE;

    public static void main(String[] args) {
        promise6();
        promise7();
        formulas();
        promise8();
        draws();
        promise9();
        promise10();
        rents();
        promise11();
        promise12();
        fortyActs();
        promise48();
        promise49();
        Check.end("ActsTest");
    }

    private static SoManyStairs pair() {
        return Check.told("storeys 6 lift 2;tenant a on 5 strong 12 heavy 7 owes 100 fails 30;"
                + "tenant b on 0 strong 6 heavy 2 owes 40;draw 9;");
    }

    private static void promise6() {
        SoManyStairs x = pair();
        int[][] due = {{5, 12, 7, 100, 30, 12, 0, 0, 100}, {0, 6, 2, 40, 0, 6, 0, 0, 40}};
        for (int t = 0; t < 2; t++) {
            for (int what = 0; what < 9; what++) {
                Check.same("tenant(" + t + ", " + what + ")", x.tenant(t, what), due[t][what]);
            }
            Check.same("tenant 9", x.tenant(t, 9), -1);
            Check.same("tenant -1", x.tenant(t, -1), -1);
        }
        for (int none : new int[] {-1, 2, 8, MIN, MAX}) {
            Check.same("no tenant " + none, x.tenant(none, 0), -1);
        }
        x.climb(1, 5, -1, 0);
        Check.same("breath", x.tenant(1, 5), 1);
        Check.same("paid", x.tenant(1, 6), 50);
        Check.same("no lack below 0", x.tenant(1, 8), 0);
        for (int i = 0; i < 4; i++) {
            x.week();
        }
        Check.same("paid 40 of 50", x.tenant(1, 6), 10);
        Check.same("no debt", x.tenant(1, 7), 0);
        Check.same("30 are lacking", x.tenant(1, 8), 30);
        Check.same("debt", x.tenant(0, 7), 100);
        Check.same("lack with debt", x.tenant(0, 8), 200);
    }

    private static void promise7() {
        SoManyStairs x = pair();
        Check.same("alone", x.worth(0, 6, -1, 0, 0), 60);
        Check.same("alone, breath", x.worth(0, 6, -1, 1, 1), 6);
        // b weighs 2: nothing more; a weighs 7: two more for each storey.
        Check.same("with b, breath", x.worth(0, 6, 1, 0, 1), 6);
        Check.same("with a, breath", x.worth(1, 2, 0, 0, 1), 6);
        Check.same("with a, too far", x.worth(1, 3, 0, 0, 1), -1);
        Check.same("nothing is done", x.about(3), 0);
        Check.same("nothing is drawn", x.about(5), 9);
        int[][] wrong = {{-1, 1, -1, 0, 0}, {2, 1, -1, 0, 0}, {0, 0, -1, 0, 0}, {0, 7, -1, 0, 0}, {0, -1, -1, 0, 0},
            {0, 1, 0, 0, 0}, {0, 1, 2, 0, 0}, {0, 1, -2, 0, 0}, {0, 1, -1, 2, 0}, {0, 1, -1, -1, 0}, {0, 1, -1, 0, 2},
            {0, 1, -1, 0, -1}, {MIN, 1, -1, 0, 0}, {0, MAX, -1, 0, 0}, {0, 1, MAX, 0, 0}, {0, MIN, 1, 0, 1}};
        for (int[] w : wrong) {
            Check.same("worth", x.worth(w[0], w[1], w[2], w[3], w[4]), -1);
        }
        x.climb(0, 6, -1, 0);
        x.climb(0, 5, -1, 0);
        Check.same("breath for one", x.worth(0, 1, -1, 0, 0), 10);
        Check.same("not for two", x.worth(0, 2, -1, 0, 0), -1);
    }

    /** By one tenant on 3 storeys, the lift at 2; a climb of 3 storeys by night, with another of heavy 5. */
    private static void formula(String formula, int due) {
        SoManyStairs x = Check.told("storeys 3 lift 2;tenant a on 1 strong 40 heavy 1 owes 1;"
                + "tenant b on 1 strong 1 heavy 5 owes 1;counts " + formula + ";moves 0;");
        x.climb(0, 3, -1, 0);
        x.climb(0, 1, -1, 0);
        Check.same("counts " + formula, x.worth(0, 3, 1, 1, 0), due);
    }

    private static void formulas() {
        formula("storeys", 3);
        formula("heavy", 5);
        formula("night", 1);
        formula("week", 0);
        formula("climbed", 4);
        formula("lift", 2);
        formula("1+2*3", 7);
        formula("(1+2)*3", 9);
        formula("20-3-2", 15);
        formula("100/7/2", 7);
        formula("100%7*3", 6);
        formula("7/0+5", 5);
        formula("7%0+5", 5);
        formula("(0-7)/2+10", 7);
        formula("(0-7)%2+10", 9);
        formula("0-5", 0);
        formula("999", 999);
        formula("1000", 999);
        formula("9999*9999", 999);
        // 99980001 * 9999 wraps to a number below 0, times 9999 once more to one above it.
        formula("9999*9999*9999", 9999 * 9999 * 9999 < 0 ? 0 : 999);
        formula("9999*9999*9999*9999", 9999 * 9999 * 9999 * 9999 < 0 ? 0 : 999);
        formula("(2*(1024*1024*1024)/(0-1)<0)*5+7", 7 + (Integer.MIN_VALUE / -1 < 0 ? 5 : 0));
        formula("2*(1024*1024*1024)%(0-1)+7", 7);
        formula("3<3", 0);
        formula("3<4", 1);
        formula("3>3", 0);
        formula("4>3", 1);
        formula("3=3", 1);
        formula("3=4", 0);
        formula("1+2=3", 1);
        formula("not 0", 1);
        formula("not 7", 0);
        formula("not not 7", 1);
        formula("not 3<2", 1);
        formula("(not 3)<2", 1);
        formula("5 and 7", 1);
        formula("5 and 0", 0);
        formula("0 or 7", 1);
        formula("0 or 0", 0);
        formula("1 or 1 and 0", 1);
        formula("(1 or 1) and 0", 0);
        formula("not 1 or 1", 1);
        formula("7", 7);
        formula("(storeys=3 and night)*50+lift", 52);
    }

    private static void promise8() {
        SoManyStairs x = pair();
        // 9 * 137 + 71 = 1304: 304, its rest 4 is less than 30, so a fails; then 304 * 137 + 71 = 41719.
        Check.same("a fails", x.climb(0, 2, -1, 0), 0);
        Check.same("seed", x.about(5), 304);
        Check.same("he has paid nothing", x.tenant(0, 6), 0);
        Check.same("it took breath", x.tenant(0, 5), 10);
        Check.same("climbed", x.about(3), 2);
        Check.same("19 is less than 30", x.climb(0, 1, -1, 1), 0);
        Check.same("b never fails", x.climb(1, 2, 0, 0), 20);
        Check.same("breath of b", x.tenant(1, 5), 0);
        Check.same("breath of a carried one", x.tenant(0, 5), 9);
        Check.same("paid", x.tenant(1, 6), 20);
        Check.same("climbed", x.about(3), 5);
        Check.same("acts", x.about(6), 3);
        int[][] wrong = {{1, 1, -1, 0}, {-1, 1, -1, 0}, {2, 1, -1, 0}, {0, 0, -1, 0}, {0, 7, -1, 0}, {0, 1, 0, 0},
            {0, 1, 2, 0}, {0, 1, -2, 0}, {0, 1, -1, 2}, {0, 1, -1, -1}, {MIN, MIN, MIN, MIN}, {MAX, MAX, MAX, MAX}};
        int seed = x.about(5);
        for (int[] w : wrong) {
            Check.same("climb", x.climb(w[0], w[1], w[2], w[3]), -1);
        }
        Check.same("nothing is drawn", x.about(5), seed);
        Check.same("nothing is done", x.about(6), 3);
        // A climb counts by what all have climbed ahead of it.
        SoManyStairs y = Check.told("tenant a on 1 strong 20 heavy 0 owes 0;tenant b on 1 strong 20 heavy 0 owes 0;"
                + "counts climbed*10+storeys+week*100+lift;moves 3;");
        Check.same("first", y.climb(0, 4, -1, 0), 4);
        Check.same("second", y.climb(1, 2, -1, 0), 42);
        y.week();
        Check.same("in the next week", y.climb(1, 1, -1, 0), 104);
    }

    private static void draws() {
        SoManyStairs x = Check.told("tenant a on 1 strong 40 heavy 0 owes 0 fails 100;"
                + "tenant b on 1 strong 40 heavy 0 owes 0 fails 8;tenant c on 1 strong 40 heavy 0 owes 0;"
                + "tenant d on 1 strong 40 heavy 0 owes 0 fails 7;draw 1;");
        // 1, 208 (8 is not less than 8), 28567, 77750, 102821, 112548
        Check.same("8 of 8", x.climb(1, 1, -1, 0), 10);
        Check.same("208", x.about(5), 208);
        x.undo();
        Check.same("8 of 7", x.climb(3, 1, -1, 0), 10);
        Check.same("567", x.climb(0, 1, -1, 0) + x.about(5), 567);
        Check.same("750", x.climb(2, 1, -1, 0) + x.about(5), 760);
        Check.same("821", x.climb(0, 1, -1, 0) + x.about(5), 821);
        Check.same("548", x.climb(1, 1, -1, 0) + x.about(5), 558);
        SoManyStairs y = Check.told("tenant a on 1 strong 40 heavy 0 owes 0;counts 999;");
        for (int i = 1; i <= 11; i++) {
            Check.same("it counts all the same", y.climb(0, 1, -1, 0), 999);
            Check.same("paid", y.tenant(0, 6), Math.min(9999, 999 * i));
        }
    }

    private static void promise9() {
        SoManyStairs x = pair();
        x.climb(1, 6, -1, 0);
        Check.same("one", x.give(1, 0, 1), 1);
        Check.same("more", x.give(1, 0, 20), 21);
        Check.same("he has less", x.tenant(1, 6), 39);
        Check.same("too many", x.give(1, 0, 40), -1);
        Check.same("all", x.give(1, 0, 39), 60);
        Check.same("no more", x.give(1, 0, 1), -1);
        int acts = x.about(6);
        int[][] wrong = {{0, 0, 1}, {0, 1, 0}, {0, 1, -1}, {0, 1, 61}, {0, 1, MAX}, {0, 1, MIN}, {-1, 0, 1}, {0, -1, 1},
            {2, 0, 1}, {0, 2, 1}};
        for (int[] w : wrong) {
            Check.same("give", x.give(w[0], w[1], w[2]), -1);
        }
        Check.same("nothing done", x.about(6), acts);
        Check.same("back", x.give(0, 1, 60), 60);
        x.undo();
        Check.same("given is an act", x.tenant(0, 6), 60);
        SoManyStairs y = Check.told("tenant a on 1 strong 40 heavy 0 owes 0;tenant b on 1 strong 40 heavy 0 owes 0;"
                + "counts 999;");
        for (int i = 0; i < 11; i++) {
            y.climb(0, 1, -1, 0);
        }
        y.climb(1, 1, -1, 0);
        y.give(0, 1, 9);
        Check.same("up to 9999", y.give(1, 0, 9), 9999);
        Check.same("not above", y.give(1, 0, 1), -1);
    }

    private static void promise10() {
        SoManyStairs x = Check.told("storeys 5 lift 2;tenant a on 1 strong 30 heavy 3 owes 0;"
                + "tenant b on 1 strong 3 heavy 4 owes 0;moves climbed-heavy+storeys*0+night*100;");
        x.climb(0, 5, -1, 1);
        x.climb(0, 5, -1, 1);
        Check.same("3 upwards", x.week(), 5);
        Check.same("nothing is climbed", x.about(3), 0);
        Check.same("breath as at first", x.tenant(0, 5), 30);
        Check.same("the week", x.about(4), 1);
        Check.same("7 downwards, 0 at least", x.week(), 0);
        for (int i = 0; i < 3; i++) {
            x.climb(0, 5, -1, 0);
        }
        Check.same("all storeys at most", x.week(), 5);
        Check.same("an act", x.about(6), 8);
        // 10 storeys climbed move it by one, 9 by none.
        SoManyStairs y = Check.told("tenant a on 1 strong 30 heavy 3 owes 0;");
        y.climb(0, 9, -1, 0);
        Check.same("nine", y.week(), 0);
        y.climb(0, 9, -1, 0);
        y.climb(0, 1, -1, 0);
        Check.same("ten", y.week(), 1);
        // The sum wraps: 1 and the greatest int are below 0.
        SoManyStairs z = Check.told("storeys 9 lift 1;moves 2*(1024*1024*1024)-1;");
        Check.same("the sum wraps", z.week(), 0);
        Check.same("from 0 it does not", z.week(), 9);
        SoManyStairs w = Check.told("storeys 20;moves week*2+storeys*0+lift-1;");
        Check.same("by the week ahead of it", w.week(), 0);
        Check.same("week 1", w.week(), 1);
        Check.same("week 2", w.week(), 5);
        Check.same("week 3", w.week(), 15);
    }

    private static void rents() {
        SoManyStairs x = Check.told("tenant a on 1 strong 40 heavy 0 owes 100;tenant b on 1 strong 40 heavy 0 owes 10;");
        x.climb(0, 6, -1, 0);
        x.climb(1, 4, -1, 0);
        for (int i = 0; i < 3; i++) {
            x.week();
        }
        Check.same("nothing due yet", x.tenant(0, 7), 0);
        Check.same("paid yet", x.tenant(0, 6), 60);
        x.week();
        Check.same("debt is left", x.tenant(0, 7), 40);
        Check.same("all is paid", x.tenant(0, 6), 0);
        Check.same("b has no debt", x.tenant(1, 7), 0);
        Check.same("30 are left", x.tenant(1, 6), 30);
        for (int i = 0; i < 3; i++) {
            x.week();
        }
        x.climb(0, 9, -1, 0);
        Check.same("what is paid lies till rents fall due", x.tenant(0, 7), 40);
        x.week();
        Check.same("40 + 100 - 90", x.tenant(0, 7), 50);
        Check.same("b", x.tenant(1, 6), 20);
        Check.same("lack", x.tenant(0, 8), 150);
    }

    private static void promise11() {
        SoManyStairs x = pair();
        Check.isNot("nothing to undo", x.undo());
        x.climb(0, 2, -1, 0);
        x.climb(1, 3, -1, 0);
        x.give(1, 0, 7);
        x.week();
        Check.is("the week", x.undo());
        Check.same("week", x.about(4), 0);
        Check.same("climbed", x.about(3), 5);
        Check.same("breath", x.tenant(1, 5), 3);
        Check.is("the gift", x.undo());
        Check.same("paid a", x.tenant(0, 6), 0);
        Check.same("paid b", x.tenant(1, 6), 30);
        Check.is("a climb", x.undo());
        Check.same("seed", x.about(5), 304);
        Check.is("the other climb", x.undo());
        Check.same("seed", x.about(5), 9);
        Check.isNot("all is undone", x.undo());
        Check.same("to redo", x.about(7), 4);
    }

    private static void promise12() {
        SoManyStairs x = pair();
        Check.isNot("nothing to redo", x.redo());
        x.climb(1, 3, -1, 0);
        x.week();
        Check.isNot("nothing is undone", x.redo());
        x.undo();
        x.undo();
        Check.is("the climb", x.redo());
        Check.same("paid", x.tenant(1, 6), 30);
        Check.same("week", x.about(4), 0);
        Check.is("the week", x.redo());
        Check.same("week", x.about(4), 1);
        Check.isNot("no more", x.redo());
        x.undo();
        x.climb(1, 1, -1, 0);
        Check.isNot("another act came", x.redo());
        Check.same("redo", x.about(7), 0);
        x.undo();
        Check.same("an act that can't be", x.climb(1, 0, -1, 0), -1);
        Check.is("is none", x.redo());
    }

    private static void fortyActs() {
        SoManyStairs x = pair();
        for (int i = 1; i <= 45; i++) {
            x.week();
            Check.same("kept", x.about(6), Math.min(i, 40));
        }
        for (int i = 0; i < 40; i++) {
            Check.is("undo " + i, x.undo());
        }
        Check.isNot("the oldest went", x.undo());
        Check.same("week", x.about(4), 5);
        Check.same("debt", x.tenant(0, 7), 100);
        for (int i = 0; i < 40; i++) {
            Check.is("redo " + i, x.redo());
        }
        Check.isNot("no more", x.redo());
        Check.same("week", x.about(4), 45);
        x.undo();
        x.week();
        Check.same("still 40", x.about(6), 40);
    }

    private static void promise48() {
        SoManyStairs x = pair();
        Check.same("image", x.image(0), 0);
        x.week();
        x.week();
        Check.same("image", x.image(2), 2);
        Check.same("no box", x.image(3), -1);
        Check.same("no box", x.image(-1), -1);
        Check.same("no act", x.about(6), 2);
        Check.same("another one", x.back(0), 0);
        x.week();
        Check.same("over it", x.image(2), 1);
        Check.same("the later one", x.back(2), 1);
    }

    private static void promise49() {
        SoManyStairs x = pair();
        Check.same("nothing kept", x.back(0), -1);
        Check.same("no box", x.back(3), -1);
        Check.same("no box", x.back(-1), -1);
        x.climb(1, 3, -1, 0);
        for (int i = 0; i < 4; i++) {
            x.week();
        }
        x.climb(0, 5, -1, 0);
        x.climb(1, 6, -1, 0);
        x.image(1);
        int[] about = new int[6];
        int[] tenants = new int[6];
        for (int i = 0; i < 6; i++) {
            about[i] = x.about(i);
            tenants[i] = x.tenant(i % 2, 5 + i / 2);
        }
        x.chalk(2, true);
        x.care();
        x.week();
        x.climb(0, 6, -1, 0);
        x.undo();
        Check.same("back", x.back(1), 4);
        for (int i = 0; i < 6; i++) {
            Check.same("about " + i, x.about(i), about[i]);
            Check.same("tenants " + i, x.tenant(i % 2, 5 + i / 2), tenants[i]);
        }
        Check.same("no acts", x.about(6), 0);
        Check.same("none undone", x.about(7), 0);
        Check.same("chalk stays", x.about(8), 1);
        Check.same("it lies there still", x.about(12), 2);
        Check.isNot("undo", x.undo());
        Check.isNot("redo", x.redo());
        x.week();
        Check.same("it is kept for more than once", x.back(1), 4);
        x.week();
        Check.is("undo behind it", x.undo());
        Check.same("to what was kept", x.about(3), about[3]);
    }
}
