/** Promises 1 to 5 and 50: the TAPE, the text of a HOUSE, its FAULTS, what is told about all. */
public final class HouseTest {
    private static final String ANN = "tenant ann on 1 strong 2 heavy 3 owes 4;";

    public static void main(String[] args) {
        promise1();
        promise2();
        promise3();
        promise4();
        promise4Keeps();
        promise5();
        noTokens();
        misplaced();
        tooMany();
        tooDeep();
        names();
        numbers();
        good();
        promise50();
        readme();
        Check.end("HouseTest");
    }

    private static void promise1() {
        SoManyStairs x = new SoManyStairs();
        int[] due = {0, 9, 0, 0, 0, 0, 0, 0, 0, 0, 0, 0, 0};
        for (int what = 0; what < due.length; what++) {
            Check.same("about(" + what + ") of a new one", x.about(what), due[what]);
        }
        Check.same("NONE", SoManyStairs.NONE, -1);
        Check.same("two objects", new SoManyStairs().about(1), 9);
    }

    private static void promise2() {
        SoManyStairs x = new SoManyStairs();
        for (int i = 1; i <= 80; i++) {
            Check.same("feed", x.feed(1, 2, 3, 4, 5), 20 * i);
        }
        Check.same("feed onto a full tape", x.feed(1, 2, 3, 4, 5), -1);
        Check.same("bytes then", x.about(10), 1600);
        x.end(1581);
        Check.same("feed, one byte too many", x.feed(1, 2, 3, 4, 5), -1);
        Check.same("nothing came", x.about(10), 1581);
        x.end(1580);
        Check.same("feed, just enough", x.feed(1, 2, 3, 4, 5), 1600);
        // The highest byte of each number comes first, and the numbers in their order.
        x.end(0);
        x.feed(0x64726177, 0x20313233, 0x3b200a20, 0x20202020, 0x20202020);
        x.house();
        Check.same("draw 123;", x.about(5), 123);
        x.feed(0x64726177, 0x20000000, 0, 0, 0);
        x.end(5);
        x.feed(0x3435363b, 0x20202020, 0x20202020, 0x20202020, 0x20202020);
        x.house();
        Check.same("behind what was there", x.about(5), 456);
        x.feed(0xff000000, 0, 0, 0, 0);
        x.house();
        Check.same("a byte above 127 is no token", x.fault(0), 1);
    }

    private static void promise3() {
        SoManyStairs x = new SoManyStairs();
        Check.same("end(0)", x.end(0), 0);
        Check.same("end(1) without", x.end(1), -1);
        x.feed(0, 0, 0, 0, 0);
        Check.same("end(21)", x.end(21), -1);
        Check.same("end(-1)", x.end(-1), -1);
        Check.same("end(MIN)", x.end(Integer.MIN_VALUE), -1);
        Check.same("end(MAX)", x.end(Integer.MAX_VALUE), -1);
        Check.same("nothing done", x.about(10), 20);
        Check.same("end(20)", x.end(20), 20);
        Check.same("end(7)", x.end(7), 7);
        Check.same("end(8)", x.end(8), -1);
        Check.same("seven", x.about(10), 7);
    }

    private static void promise4() {
        SoManyStairs x = new SoManyStairs();
        Check.same("an empty text", x.house(), 0);
        Check.feed(x, "storeys 5 lift 3;draw 17;" + ANN + "tenant bob on 5 strong 40 heavy 9 owes 999 fails 100;");
        Check.same("house", x.house(), 2);
        Check.same("tape", x.about(10), 0);
        Check.same("storeys", x.about(1), 5);
        Check.same("lift", x.about(2), 3);
        Check.same("seed", x.about(5), 17);
        int[] bob = {5, 40, 9, 999, 100, 40, 0, 0, 999};
        for (int what = 0; what < bob.length; what++) {
            Check.same("bob " + what, x.tenant(1, what), bob[what]);
        }
        Check.feed(x, "draw 1;");
        Check.same("told anew", x.house(), 0);
        Check.same("storeys not told", x.about(1), 9);
        Check.same("lift not told", x.about(2), 0);
        // Counts and moves of the house before are gone, too.
        Check.feed(x, "counts 7;moves 3;" + ANN);
        x.house();
        Check.same("counts", x.worth(0, 1, -1, 0, 0), 7);
        Check.same("moves", x.pull(), 3);
        Check.feed(x, ANN);
        x.house();
        Check.same("counts not told", x.worth(0, 2, -1, 0, 0), 20);
        x.climb(0, 2, -1, 0);
        Check.same("moves not told", x.pull(), 0);
        Check.same("ten more", x.lever(), 8);
    }

    private static void promise4Keeps() {
        SoManyStairs x = Check.told("storeys 4 lift 1;" + ANN);
        x.climb(0, 1, -1, 0);
        x.week();
        x.undo();
        x.image(1);
        x.chalk(1, true);
        x.later(5);
        x.care();
        Check.feed(x, "tenant");
        Check.same("a fault", x.house(), -1);
        Check.same("the tape is empty then", x.about(10), 0);
        int[] due = {1, 4, 1, 1, 0, 71, 1, 1, 1, 5, 0, 0, 1};
        for (int what = 0; what < due.length; what++) {
            Check.same("about(" + what + ") stays", x.about(what), due[what]);
        }
        Check.same("the box stays", x.back(1), 0);
        x.climb(0, 1, -1, 0);
        x.undo();
        Check.feed(x, "storeys 4 lift 1;" + ANN);
        Check.same("a good one", x.house(), 1);
        int[] anew = {1, 4, 1, 0, 0, 0, 0, 0, 0, 5, 0, 0, 0};
        for (int what = 0; what < anew.length; what++) {
            Check.same("about(" + what + ") anew", x.about(what), anew[what]);
        }
        Check.same("the box is empty", x.back(1), -1);
        Check.isNot("nothing to undo", x.undo());
        Check.isNot("nothing to redo", x.redo());
        Check.same("breath", x.tenant(0, 5), 2);
        Check.same("paid", x.tenant(0, 6), 0);
    }

    private static void promise5() {
        SoManyStairs x = new SoManyStairs();
        Check.same("ahead of any", x.fault(0), 0);
        Check.same("its place", x.fault(1), -1);
        Check.feed(x, "draw 1;;");
        x.house();
        Check.same("fault", x.fault(0), 2);
        Check.same("place", x.fault(1), 7);
        Check.same("another what", x.fault(2), -1);
        Check.same("another what", x.fault(-1), -1);
        x.house();
        Check.same("of the latest", x.fault(0), 0);
        Check.same("of the latest", x.fault(1), -1);
    }

    private static void noTokens() {
        Check.fault("$", 1, 0);
        Check.fault("draw 1;\t", 1, 7);
        Check.fault("draw 1;\r", 1, 7);
        Check.fault("Draw 1;", 1, 0);
        Check.fault("draw 1" + (char) 233, 1, 6);
        Check.fault("draw 1" + (char) 0, 1, 6);
        Check.fault("draw 00001;", 1, 5);
        Check.fault("draw 1x;", 1, 5);
        Check.fault("draw 12345x", 1, 5);
        Check.fault("storeysss 3;", 1, 0);
        Check.fault("tenant abcdefghi on 1", 1, 7);
        // The first by its place, whatever sort it is of; at one place the least.
        Check.fault("storeys 21 $", 4, 8);
        Check.fault("storeys $ 21", 1, 8);
        Check.fault("draw 1 2 $", 2, 7);
        Check.fault("counts 1 + 12a", 1, 11);
        Check.fault("moves 1+" + Check.times(29, "1+") + "99999", 1, 66);
    }

    private static void misplaced() {
        Check.fault(";", 2, 0);
        Check.fault("7", 2, 0);
        Check.fault("ann", 2, 0);
        Check.fault("storeys", 2, 7);
        Check.fault("storeys   \n", 2, 11);
        Check.fault("storeys 3", 2, 9);
        Check.fault("storeys lift 3;", 2, 8);
        Check.fault("storeys 3 lift;", 2, 14);
        Check.fault("storeys 3 lift 1 lift 1;", 2, 17);
        Check.fault("lift 1;", 2, 0);
        Check.fault("storeys 3;storeys 3;", 2, 10);
        Check.fault("moves 1;storeys 3;", 2, 8);
        Check.fault("tenant ;", 2, 7);
        Check.fault("tenant 7 on", 2, 7);
        for (String own : new String[] {"storeys", "lift", "tenant", "on", "strong", "heavy", "owes", "fails", "counts",
            "moves", "draw", "or", "and", "not", "night", "week", "climbed"}) {
            Check.fault("tenant " + own + " on 1", 2, 7);
        }
        Check.fault("tenant a1 on 1", 2, 8);
        Check.fault("tenant a strong 1", 2, 9);
        Check.fault("tenant a on 1 strong 1 owes 1", 2, 23);
        Check.fault("tenant a on 1 strong 1 heavy 1;", 2, 30);
        Check.fault("tenant a on 1 strong 1 heavy 1 owes 1 fails;", 2, 43);
        Check.fault("tenant a on 1 strong 1 heavy 1 owes 1 fails 1 fails 1;", 2, 46);
        Check.fault("counts;", 2, 6);
        Check.fault("counts 1", 2, 8);
        Check.fault("counts 1+;", 2, 9);
        Check.fault("counts -1;", 2, 7);
        Check.fault("counts 1 2;", 2, 9);
        Check.fault("counts (1;", 2, 9);
        Check.fault("counts 1);", 2, 8);
        Check.fault("counts ();", 2, 8);
        Check.fault("counts 1<2=3;", 2, 10);
        Check.fault("counts 1+not 2;", 2, 9);
        Check.fault("counts 1<not 2;", 2, 9);
        Check.fault("counts 1 and;", 2, 12);
        Check.fault("counts or 1;", 2, 7);
        Check.fault("counts strong;", 2, 7);
        Check.fault("counts ann;", 2, 7);
        Check.fault("draw ;", 2, 5);
        Check.fault("draw 1", 2, 6);
    }

    private static void tooMany() {
        StringBuilder eight = new StringBuilder();
        for (int i = 0; i < 8; i++) {
            eight.append("tenant ").append((char) ('a' + i)).append(" on 1 strong 1 heavy 1 owes 1;");
        }
        Check.good(eight.toString(), 8);
        Check.fault(eight + " tenant a", 2, eight.length() + 1);
        Check.fault("counts 1;moves 1;counts 2;", 2, 17);
        Check.fault("moves 1;counts 1;moves 2;", 2, 17);
        Check.fault("draw 1;draw 1;", 2, 7);
        Check.good("counts " + Check.times(29, "1+") + "1;moves " + Check.times(29, "1+") + "1;", 0);
        Check.fault("counts " + Check.times(30, "1+") + "1;", 2, 67);
        Check.fault("counts 1;moves " + Check.times(30, "1+") + "1;", 2, 75);
        // A bracket is a unit and holds units.
        Check.good("counts " + Check.times(28, "1+") + "(1);", 0);
        Check.fault("counts " + Check.times(29, "1+") + "(1);", 2, 66);
        Check.fault("counts " + Check.times(30, "1+") + "(1);", 2, 67);
        Check.fault("counts " + Check.times(30, "1 or ") + "not 1;", 2, 161);
        Check.same("units", Check.told("counts (1+2)*3;moves ((4));").about(11), 7);
    }

    private static void tooDeep() {
        Check.good("counts " + Check.times(7, "(") + "1" + Check.times(7, ")") + ";", 0);
        Check.fault("counts " + Check.times(8, "(") + "1" + Check.times(8, ")") + ";", 2, 14);
        Check.good("counts " + Check.times(7, "not ") + "1;", 0);
        Check.fault("counts " + Check.times(8, "not ") + "1;", 2, 35);
        Check.fault("counts " + Check.times(7, "not ") + "(1);", 2, 35);
        Check.fault("counts " + Check.times(7, "(") + "not 1" + Check.times(7, ")") + ";", 2, 14);
        Check.good("counts " + Check.times(3, "not (") + "(1" + Check.times(4, ")") + ";", 0);
        Check.fault("counts " + Check.times(3, "not (") + "((1" + Check.times(5, ")") + ";", 2, 23);
        // What stands beside the others is not within them.
        Check.good("counts " + Check.times(29, "not ").substring(0, 28) + "1 and " + Check.times(7, "not ") + "1;", 0);
        Check.good("counts (((((((1)))))))+(((((((1)))))));", 0);
    }

    private static void names() {
        String rest = " on 1 strong 2 heavy 3 owes 4;";
        Check.fault("tenant a" + rest + "tenant b" + rest + "tenant a" + rest, 3, 83);
        Check.fault(ANN + "tenant ann;", 3, 47);
        Check.good("tenant a" + rest + "tenant aa" + rest + "tenant aaa" + rest, 3);
        Check.good("tenant abcdefgh" + rest + "tenant abcdefgi" + rest, 2);
        Check.good("tenant e" + rest + "tenant z" + rest + "tenant tenants" + rest, 3);
        // Of an earlier text no name is left.
        SoManyStairs x = Check.told(ANN);
        Check.feed(x, ANN);
        Check.same("ann once more", x.house(), 1);
    }

    private static void numbers() {
        Check.fault("storeys 0;", 4, 8);
        Check.fault("storeys 21;", 4, 8);
        Check.fault("storeys 4 lift 5;", 4, 15);
        Check.fault("storeys 4;tenant a on 5", 4, 22);
        Check.fault("tenant a on 10", 4, 12);
        Check.fault("tenant a on 0 strong 41", 4, 21);
        Check.fault("tenant a on 0 strong 0 heavy 10", 4, 29);
        Check.fault("tenant a on 0 strong 0 heavy 0 owes 1000", 4, 36);
        Check.fault("tenant a on 0 strong 0 heavy 0 owes 0 fails 101", 4, 44);
        Check.fault("draw 1000;", 4, 5);
        Check.good("storeys 20 lift 20;tenant a on 20 strong 40 heavy 9 owes 999 fails 100;draw 999;", 1);
        Check.good("storeys 1 lift 0;tenant a on 0 strong 0 heavy 0 owes 0 fails 0;draw 0;", 1);
        Check.good("storeys 0020;", 0);
        Check.good("counts 9999;", 0);
    }

    private static void good() {
        Check.good("", 0);
        Check.good(" \n ", 0);
        Check.good("storeys5 lift3;tenant a on0 strong1 heavy2 owes3 fails4;draw5;", 1);
        Check.good("draw 1;moves 1;counts 1;" + ANN, 1);
        Check.good("storeys\n5\n;", 0);
        Check.good(ANN + Check.times(1600 - ANN.length(), " "), 1);
        Check.fault(ANN + Check.times(1599 - ANN.length(), " ") + "x", 2, 1599);
    }

    private static void promise50() {
        SoManyStairs x = Check.told("storeys 6 lift 2;" + ANN + "tenant b on 0 strong 9 heavy 0 owes 0;"
                + "counts storeys*(night+1);moves 1;draw 40;");
        x.climb(1, 3, 0, 1);
        x.climb(1, 1, -1, 0);
        x.week();
        x.climb(1, 2, -1, 0);
        x.undo();
        x.undo();
        x.redo();
        x.climb(0, 1, -1, 0);
        x.undo();
        x.chalk(1, false);
        x.tread(2, true);
        x.untell(0);
        x.later(30);
        x.let();
        x.feed(1, 1, 1, 1, 1);
        // The SEED of two climbs that stand: 40, 5551, 75558.
        int[] due = {2, 6, 3, 0, 1, 558, 3, 1, 2, 30, 20, 5, 2};
        for (int what = 0; what < due.length; what++) {
            Check.same("about(" + what + ")", x.about(what), due[what]);
        }
        x.undo();
        Check.same("climbed", x.about(3), 4);
        Check.same("about(13)", x.about(13), -1);
        Check.same("about(-1)", x.about(-1), -1);
    }

    private static void readme() {
        SoManyStairs stairs = new SoManyStairs();
        stairs.feed(0x73746f72, 0x65797320, 0x333b7465, 0x6e616e74, 0x2061206f);
        stairs.feed(0x6e203320, 0x7374726f, 0x6e672039, 0x20686561, 0x76792030);
        stairs.feed(0x206f7765, 0x73203530, 0x3b000000, 0, 0);
        Check.same("end", stairs.end(49), 49);
        Check.same("house", stairs.house(), 1);
        Check.same("climb", stairs.climb(0, 3, SoManyStairs.NONE, 0), 30);
        Check.same("lack", stairs.tenant(0, 8), 20);
    }
}
