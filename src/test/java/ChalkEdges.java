/** The boundary cases of CHALK, of what is known at a TIME: promises 41 to 47. */
final class ChalkEdges {
    private static final int MIN = Integer.MIN_VALUE;
    private static final int MAX = Integer.MAX_VALUE;

    private ChalkEdges() {
    }

    /** Runs of a: (0 1) (1 2) (2 3); of b: these, (0 2) (1 3) and (0 3); of c none. */
    private static SoManyStairs three() {
        return Check.told("storeys 3;" + Check.tenant("a", 1, 1, 2, 0) + Check.tenant("b", 1, 9, 5, 0) + Check.tenant("c", 1, 0, 9, 0));
    }

    @Says("CHALK, 30 marks at most,")
    private static void thirtyMarks() {
        SoManyStairs x = three();
        for (int i = 0; i < 30; i++) {
            Check.same("marks", x.about(8), i);
            Check.same("mark " + i, i % 3 == 0 ? x.tread(0, true) : x.chalk(1, true), i);
        }
        Check.same("the 31st", x.chalk(1, true), -1);
        Check.same("the 31st", x.tread(1, true), -1);
        Check.same("marks", x.about(8), 30);
        Check.is("the last one can be untold", x.untell(29));
        Check.isNot("there is no other", x.untell(30));
        Check.same("an untold one is one still", x.chalk(1, true), -1);
    }

    @Says("is TOLD at a TIME (0 at first, goes on),")
    private static void timeGoesOn() {
        SoManyStairs x = three();
        Check.same("at first", x.about(9), 0);
        x.chalk(0, true);
        x.later(3);
        x.tread(3, true);
        Check.same("ahead of both", x.runs(-1), 9);
        Check.same("at 0", x.runs(0), 4);
        Check.same("at 2", x.runs(2), 4);
        Check.same("at 3", x.runs(3), 3);
        x.house();
        Check.same("in a new house, too", x.about(9), 3);
        Check.same("on from there", x.later(4), 7);
    }

    @Says("UNTOLD at a later one or the same,")
    private static void untoldAtTheSameTime() {
        SoManyStairs x = three();
        x.later(5);
        x.chalk(0, true);
        Check.same("told", x.runs(5), 4);
        Check.is("at once", x.untell(0));
        for (int k : new int[] {MIN, 0, 4, 5, 6, MAX}) {
            Check.same("it never counts, at " + k, x.runs(k), 9);
        }
        x.chalk(0, true);
        x.later(1);
        x.untell(1);
        int[][] due = {{4, 9}, {5, 4}, {6, 9}, {7, 9}};
        for (int[] d : due) {
            Check.same("one later, at " + d[0], x.runs(d[0]), d[1]);
        }
    }

    @Says("a run of storeys from one up to a higher one (0 .. all), no more than his strong:")
    private static void runsByStrong() {
        int[][] due = {{0, 0}, {1, 5}, {2, 9}, {3, 12}, {4, 14}, {5, 15}, {6, 15}, {40, 15}};
        for (int[] d : due) {
            Check.same("strong " + d[0], Check.told("storeys 5;" + Check.tenant("a", 1, d[0], 0, 0)).runs(0), d[1]);
        }
        Check.same("of one storey", Check.told("storeys 1;" + Check.tenant("a", 0, 9, 0, 0)).runs(0), 1);
        Check.same("of twenty", Check.told("storeys 20;" + Check.tenant("a", 0, 40, 0, 0)).runs(0), 210);
        Check.same("nineteen of twenty", Check.told("storeys 20;" + Check.tenant("a", 0, 19, 0, 0)).runs(0), 209);
        // His strong counts, not the BREATH that he has left.
        SoManyStairs x = Check.told("storeys 5;" + Check.tenant("a", 1, 5, 0, 0));
        x.climb(0, 5, -1, 0);
        Check.same("breath", x.runs(0), 15);
    }

    @Says("that at a storey of the run's (both ends count) there was chalk, or was none;")
    private static void bothEndsCount() {
        // b alone: (0 1) (1 2) (2 3) (0 2) (1 3) (0 3).
        String house = "storeys 3;" + Check.tenant("b", 1, 9, 5, 0);
        int[] with = {3, 5, 5, 3};
        for (int storey = 0; storey <= 3; storey++) {
            SoManyStairs x = Check.told(house);
            x.chalk(storey, true);
            Check.same("chalk at " + storey, x.runs(0), with[storey]);
            SoManyStairs y = Check.told(house);
            y.chalk(storey, false);
            Check.same("none at " + storey, y.runs(0), 6 - with[storey]);
            y.chalk(storey, true);
            Check.same("both can't be", y.runs(0), 0);
        }
        SoManyStairs z = Check.told(house);
        z.chalk(0, true);
        z.chalk(3, true);
        Check.same("from end to end", z.runs(0), 1);
        z.chalk(1, false);
        Check.same("without a gap", z.runs(0), 0);
    }

    @Says("that he was so heavy at least, or was not.")
    private static void soHeavyAtLeast() {
        // Runs of a, who is heavy 2, are three, of b, who is heavy 5, six.
        int[] atLeast = {9, 9, 9, 6, 6, 6, 0, 0, 0, 0};
        for (int heavy = 0; heavy <= 9; heavy++) {
            SoManyStairs x = three();
            x.tread(heavy, true);
            Check.same("heavy " + heavy, x.runs(0), atLeast[heavy]);
            SoManyStairs y = three();
            y.tread(heavy, false);
            Check.same("not heavy " + heavy, y.runs(0), 9 - atLeast[heavy]);
        }
        SoManyStairs z = three();
        z.tread(2, true);
        z.tread(1, true);
        z.tread(6, false);
        z.tread(9, false);
        Check.same("all of it is so", z.runs(0), 9);
        SoManyStairs w = Check.told("storeys 1;" + Check.tenant("a", 0, 1, 0, 0) + Check.tenant("b", 0, 1, 9, 0));
        w.tread(9, true);
        Check.same("nine", w.who(0), 2);
        w.untell(0);
        w.tread(1, false);
        Check.same("not even one", w.who(0), 1);
    }

    @Says("As known at k those count that were TOLD at k or before, not UNTOLD at k or before.")
    private static void asKnownAt() {
        SoManyStairs x = three();
        x.later(5);
        x.chalk(0, true);
        x.later(5);
        x.tread(3, true);
        x.later(5);
        x.untell(0);
        x.later(5);
        x.untell(1);
        int[][] due = {{MIN, 9}, {-1, 9}, {0, 9}, {4, 9}, {5, 4}, {9, 4}, {10, 3}, {14, 3}, {15, 6}, {19, 6}, {20, 9},
            {21, 9}, {MAX, 9}};
        for (int[] d : due) {
            Check.same("runs(" + d[0] + ")", x.runs(d[0]), d[1]);
        }
        Check.same("who at 4", x.who(4), 3);
        Check.same("who at 10", x.who(10), 2);
        Check.same("ask at 10", x.ask(0, 10), 2);
        Check.same("ask at 21", x.ask(1, 21), 5);
    }

    @Says("ASK: the storey of which to know whether the run has it "
            + "would leave the fewest of these at the most; of like ones the first.")
    private static void firstOfLikeStoreys() {
        // Of two runs, (0 1) and (1 2), 0 and 2 part them, 1 does not.
        SoManyStairs x = Check.told("storeys 2;" + Check.tenant("a", 1, 1, 0, 0));
        Check.same("0", x.ask(0, 0), 0);
        Check.same("one is left", x.ask(1, 0), 1);
        x.chalk(0, false);
        Check.same("all storeys leave the one run", x.ask(0, 0), 0);
        Check.same("one", x.ask(1, 0), 1);
        // (0 1) (0 2) (0 3) (1 2) (1 3) (2 3): 0 is in 3, 1 in 5, 2 in 5, 3 in 3.
        SoManyStairs y = Check.told("storeys 3;" + Check.tenant("a", 1, 9, 0, 0));
        Check.same("0 and 3 alike", y.ask(0, 0), 0);
        Check.same("three are left", y.ask(1, 0), 3);
        y.chalk(0, true);
        // (0 1) (0 2) (0 3): 1 is in all, 2 in two, 3 in one.
        Check.same("2 and 3 alike", y.ask(0, 0), 2);
        Check.same("two are left", y.ask(1, 0), 2);
        // (18 19) (19 20): 18 and 20 are in one of them, 19 is in both, all others in none.
        SoManyStairs z = Check.told("storeys 20;" + Check.tenant("a", 1, 1, 0, 0));
        z.chalk(19, true);
        Check.same("(18 19) and (19 20)", z.ask(0, 0), 18);
        // (0 1) (1 2) of a, these and (0 2) of b: 0 is in three, 1 in five, 2 in three.
        SoManyStairs w = Check.told("storeys 2;" + Check.tenant("a", 1, 1, 0, 0) + Check.tenant("b", 1, 2, 0, 0));
        Check.same("0", w.ask(0, 0), 0);
        Check.same("three", w.ask(1, 0), 3);
    }

    @Says("ASK: the storey of which to know whether the run has it")
    private static void theTopStorey() {
        SoManyStairs x = three();
        x.chalk(0, true);
        x.chalk(2, true);
        Check.same("(0 2) or (0 3)", x.ask(0, 0), 3);
        Check.same("one is left", x.ask(1, 0), 1);
        SoManyStairs y = Check.told("storeys 20;" + Check.tenant("a", 1, 40, 0, 0));
        Check.same("of all runs", y.ask(1, 0), 106);
        y.chalk(0, true);
        y.chalk(19, true);
        Check.same("(0 19) or (0 20)", y.ask(0, 0), 20);
        Check.same("one is left", y.ask(1, 0), 1);
        y.untell(1);
        // (0 1) to (0 20): a storey s is in twenty-one less s of them.
        Check.same("10 is in 11, 11 in 10", y.ask(0, 0), 11);
        Check.same("ten are left", y.ask(1, 0), 10);
    }

    private static void nothingIsTold(SoManyStairs x, int[] before, int runs) {
        Check.stays("nothing is told", x, before);
        Check.same("runs as ahead", x.runs(0), runs);
    }

    @Says(promise = 41, value = "CHALK of a storey, or none: its number;")
    private static void chalkOfEachStorey() {
        SoManyStairs x = Check.told("storeys 20;" + Check.tenant("a", 1, 40, 0, 0));
        Check.same("the ground", x.chalk(0, true), 0);
        Check.same("the top", x.chalk(20, true), 1);
        Check.same("one run", x.runs(0), 1);
        x.untell(1);
        Check.same("none there", x.chalk(20, false), 2);
        Check.same("twenty less one", x.runs(0), 19);
        Check.same("without tenants, too", new SoManyStairs().chalk(9, true), 0);
    }

    @Says(promise = 41, value = "NONE, doing nothing, if one can't be,")
    private static void chalkOfNoStorey() {
        SoManyStairs x = three();
        x.chalk(1, true);
        int[] before = Check.state(x);
        int runs = x.runs(0);
        for (boolean is : new boolean[] {true, false}) {
            for (int never : Check.NEVER) {
                Check.same("chalk(" + never + ")", x.chalk(never, is), -1);
            }
            Check.same("chalk(-1)", x.chalk(-1, is), -1);
            Check.same("chalk(4)", x.chalk(4, is), -1);
        }
        nothingIsTold(x, before, runs);
        Check.same("the next number", x.chalk(1, true), 1);
    }

    @Says(promise = 41, value = "or there are 30.")
    private static void chalkOfThirty() {
        SoManyStairs x = three();
        for (int i = 0; i < 29; i++) {
            x.chalk(1, true);
        }
        Check.same("the 30th", x.chalk(1, true), 29);
        int[] before = Check.state(x);
        int runs = x.runs(0);
        Check.same("the 31st", x.chalk(1, false), -1);
        Check.same("once more", x.chalk(0, true), -1);
        nothingIsTold(x, before, runs);
    }

    @Says(promise = 42, value = "That he was so heavy (0 .. 9) at least, or was not: its number;")
    private static void treadFromNoneToNine() {
        SoManyStairs x = three();
        Check.same("0", x.tread(0, true), 0);
        Check.same("all are", x.runs(0), 9);
        Check.same("9", x.tread(9, false), 1);
        Check.same("all but c, who has no run", x.runs(0), 9);
        Check.same("not even 0", x.tread(0, false), 2);
        Check.same("nobody is so light", x.runs(0), 0);
        Check.same("without tenants, too", new SoManyStairs().tread(9, true), 0);
    }

    @Says(promise = 42, value = "NONE likewise.")
    private static void treadOfNoNumber() {
        SoManyStairs x = three();
        x.chalk(1, true);
        int[] before = Check.state(x);
        int runs = x.runs(0);
        for (boolean is : new boolean[] {true, false}) {
            for (int never : Check.NEVER) {
                Check.same("tread(" + never + ")", x.tread(never, is), -1);
            }
            Check.same("tread(-1)", x.tread(-1, is), -1);
            Check.same("tread(10)", x.tread(10, is), -1);
        }
        nothingIsTold(x, before, runs);
        for (int i = 1; i < 30; i++) {
            Check.same("number", x.tread(0, true), i);
        }
        before = Check.state(x);
        Check.same("the 31st", x.tread(0, false), -1);
        nothingIsTold(x, before, runs);
    }

    @Says(promise = 43, value = "It is UNTOLD: true; false if it is so already,")
    private static void untoldAlready() {
        SoManyStairs x = three();
        x.chalk(0, true);
        x.later(3);
        Check.is("untold", x.untell(0));
        x.later(3);
        Check.isNot("already", x.untell(0));
        Check.same("at 2 it was told", x.runs(2), 4);
        Check.same("at 3 no more", x.runs(3), 9);
        Check.same("at 5 no more", x.runs(5), 9);
    }

    @Says(promise = 43, value = "or there is none such.")
    private static void noSuchMark() {
        SoManyStairs x = three();
        Check.isNot("none at all", x.untell(0));
        x.chalk(0, true);
        x.chalk(1, true);
        for (int never : Check.NEVER) {
            Check.isNot("untell(" + never + ")", x.untell(never));
        }
        for (int mark : new int[] {-1, 2, 29, 30, 31}) {
            Check.isNot("untell(" + mark + ")", x.untell(mark));
        }
        Check.same("both count still", x.runs(0), 4);
        Check.same("the next one", x.chalk(2, true), 2);
        Check.is("none such once is one later", x.untell(2));
    }

    @Says(promise = 44, value = "So much later (0 .. 1000): the TIME;")
    private static void fromNoneTo1000Later() {
        SoManyStairs x = new SoManyStairs();
        Check.same("0", x.later(0), 0);
        Check.same("1", x.later(1), 1);
        Check.same("1000", x.later(1000), 1001);
        Check.same("0", x.later(0), 1001);
        Check.same("the time", x.about(9), 1001);
    }

    @Says(promise = 44, value = "NONE, doing nothing, for another number,")
    private static void laterByAnotherNumber() {
        SoManyStairs x = new SoManyStairs();
        x.later(7);
        for (int by : new int[] {-1, 1001, -7, -8, MIN, MIN + 1, MAX, MAX - 7, 65536, -65536}) {
            Check.same("later(" + by + ")", x.later(by), -1);
            Check.same("the time", x.about(9), 7);
        }
    }

    @Says(promise = 44, value = "or if it would be above 100,000.")
    private static void noTimeAbove100000() {
        SoManyStairs x = new SoManyStairs();
        for (int i = 1; i <= 99; i++) {
            Check.same("later", x.later(1000), 1000 * i);
        }
        x.later(1);
        Check.same("100,001", x.later(1000), -1);
        Check.same("the time", x.about(9), 99001);
        Check.same("100,000", x.later(999), 100000);
        Check.same("no more", x.later(1), -1);
        Check.same("by 1000", x.later(1000), -1);
        Check.same("the time", x.about(9), 100000);
        Check.same("but so much", x.later(0), 100000);
        x.house();
        Check.same("in another house, too", x.later(1), -1);
    }

    @Says(promise = 45, value = "RUNS: how many.")
    private static void howManyRuns() {
        Check.same("nobody", new SoManyStairs().runs(0), 0);
        StringBuilder eight = new StringBuilder("storeys 20;");
        for (int i = 0; i < 8; i++) {
            eight.append(Check.tenant("" + (char) ('a' + i), 1, 40, i, 0));
        }
        SoManyStairs x = Check.told(eight.toString());
        Check.same("eight by 210", x.runs(0), 1680);
        Check.same("eight", x.who(0), 255);
        // A storey s is in (s + 1) * (21 - s) - 1 runs of each: 5 in 95, 6 in 104, 7 in 111.
        Check.same("6 is in 104 of each", x.ask(0, 0), 6);
        Check.same("so 106 of each may be left", x.ask(1, 0), 848);
        x.tread(7, true);
        Check.same("the last one", x.runs(0), 210);
    }

    @Says(promise = 46, value = "WHO, as bits.")
    private static void whoAsBits() {
        Check.same("nobody", new SoManyStairs().who(0), 0);
        SoManyStairs x = three();
        Check.same("c has no run", x.who(0), 3);
        x.later(1);
        x.chalk(1, true);
        x.chalk(3, true);
        Check.same("b", x.who(1), 2);
        Check.same("a and b", x.who(0), 3);
        x.tread(5, false);
        Check.same("nobody", x.who(1), 0);
    }

    @Says(promise = 47, value = "ASK what 0: the storey, 1: how many RUNS are left at the most; NONE if there are none,")
    private static void askWithoutRuns() {
        for (int what = 0; what < 2; what++) {
            Check.same("nobody", new SoManyStairs().ask(what, 0), -1);
            SoManyStairs x = three();
            x.later(1);
            x.chalk(1, true);
            x.chalk(1, false);
            Check.same("none", x.ask(what, 1), -1);
            Check.same("at 0 there are", x.ask(what, 0), what == 0 ? 0 : 5);
            x.untell(1);
            Check.is("now there are", x.ask(what, 1) >= 0);
        }
    }

    @Says(promise = 47, value = "or for another what.")
    private static void askOfAnotherWhat() {
        SoManyStairs x = three();
        for (int never : Check.NEVER) {
            Check.same("ask(" + never + ")", x.ask(never, 0), -1);
        }
        Check.same("ask(-1)", x.ask(-1, 0), -1);
        Check.same("ask(2)", x.ask(2, 0), -1);
    }
}
