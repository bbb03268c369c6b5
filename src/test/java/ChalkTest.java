/** Promises 41 to 47: CHALK, by marks that are told and untold, as known at a time. */
public final class ChalkTest {
    private static final int MIN = Integer.MIN_VALUE;
    private static final int MAX = Integer.MAX_VALUE;

    public static void main(String[] args) {
        promise41();
        promise42();
        thirtyMarks();
        promise43();
        promise44();
        promise45();
        promise46();
        promise47();
        Check.end("ChalkTest");
    }

    /** Runs of a: (0 1) (1 2) (2 3); of b: these, (0 2) (1 3) and (0 3); of c none. */
    private static SoManyStairs three() {
        return Check.told("storeys 3;tenant a on 1 strong 1 heavy 2 owes 0;tenant b on 1 strong 9 heavy 5 owes 0;"
                + "tenant c on 1 strong 0 heavy 9 owes 0;");
    }

    private static void promise41() {
        SoManyStairs x = three();
        Check.same("nine", x.runs(0), 9);
        Check.same("first", x.chalk(3, true), 0);
        // a: (2 3); b: (2 3) (1 3) (0 3)
        Check.same("the end of a run counts", x.runs(0), 4);
        Check.same("second", x.chalk(0, false), 1);
        Check.same("not from 0", x.runs(0), 3);
        Check.same("third", x.chalk(2, false), 2);
        Check.same("a run has no gap", x.runs(0), 0);
        Check.same("marks", x.about(8), 3);
        for (int none : new int[] {-1, 4, MIN, MAX}) {
            Check.same("no storey", x.chalk(none, true), -1);
            Check.same("no storey", x.chalk(none, false), -1);
        }
        Check.same("nothing done", x.about(8), 3);
        Check.same("without tenants, too", new SoManyStairs().chalk(9, true), 0);
    }

    private static void promise42() {
        SoManyStairs x = three();
        Check.same("so heavy", x.tread(2, true), 0);
        Check.same("a and b", x.runs(0), 9);
        Check.same("so heavy", x.tread(3, true), 1);
        Check.same("b", x.runs(0), 6);
        Check.same("not so heavy", x.tread(6, false), 2);
        Check.same("b", x.runs(0), 6);
        Check.same("not so heavy", x.tread(5, false), 3);
        Check.same("nobody", x.runs(0), 0);
        for (int none : new int[] {-1, 10, MIN, MAX}) {
            Check.same("no such heavy", x.tread(none, true), -1);
        }
        Check.same("0", x.tread(0, true), 4);
        Check.same("9", x.tread(9, true), 5);
        Check.same("marks", x.about(8), 6);
        SoManyStairs y = three();
        y.tread(0, false);
        Check.same("nobody is so light", y.runs(0), 0);
    }

    private static void thirtyMarks() {
        SoManyStairs x = three();
        for (int i = 0; i < 30; i++) {
            Check.same("number", i % 2 == 0 ? x.chalk(1, true) : x.tread(0, true), i);
        }
        Check.same("one too many", x.chalk(1, true), -1);
        Check.same("one too many", x.tread(1, true), -1);
        x.untell(3);
        Check.same("an untold one is one still", x.chalk(1, true), -1);
        Check.same("30", x.about(8), 30);
        Check.feed(x, "storeys 3;");
        x.house();
        Check.same("of a new house", x.tread(1, true), 0);
    }

    private static void promise43() {
        SoManyStairs x = three();
        Check.isNot("none there", x.untell(0));
        x.chalk(0, true);
        x.later(3);
        x.chalk(1, false);
        Check.same("(0 1) holds 1", x.runs(3), 0);
        Check.is("untold", x.untell(1));
        Check.isNot("already", x.untell(1));
        for (int none : new int[] {-1, 2, 30, MIN, MAX}) {
            Check.isNot("none such", x.untell(none));
        }
        Check.same("at once", x.runs(3), 4);
        Check.is("the other", x.untell(0));
        Check.same("all", x.runs(3), 9);
        Check.same("as it was known", x.runs(2), 4);
        Check.same("marks", x.about(8), 2);
    }

    private static void promise44() {
        SoManyStairs x = new SoManyStairs();
        Check.same("0", x.later(0), 0);
        Check.same("7", x.later(7), 7);
        for (int none : new int[] {-1, 1001, MIN, MAX}) {
            Check.same("another number", x.later(none), -1);
        }
        Check.same("the time", x.about(9), 7);
        for (int i = 1; i <= 99; i++) {
            Check.same("later", x.later(1000), 7 + 1000 * i);
        }
        Check.same("above 100000", x.later(994), -1);
        Check.same("still", x.about(9), 99007);
        Check.same("just 100000", x.later(993), 100000);
        Check.same("no more", x.later(1), -1);
        Check.same("but now", x.later(0), 100000);
        x.house();
        Check.same("it stays", x.about(9), 100000);
    }

    private static void promise45() {
        Check.same("nobody", new SoManyStairs().runs(0), 0);
        SoManyStairs x = three();
        x.later(5);
        x.chalk(0, true);
        x.later(5);
        x.tread(3, true);
        x.later(5);
        x.untell(0);
        Check.same("ahead of all", x.runs(MIN), 9);
        Check.same("at 0", x.runs(0), 9);
        Check.same("at 4", x.runs(4), 9);
        // (0 1) of a; (0 1) (0 2) (0 3) of b
        Check.same("at 5", x.runs(5), 4);
        Check.same("at 9", x.runs(9), 4);
        Check.same("at 10", x.runs(10), 3);
        Check.same("at 14", x.runs(14), 3);
        Check.same("at 15", x.runs(15), 6);
        Check.same("later on", x.runs(MAX), 6);
        SoManyStairs all = Check.told("storeys 20;tenant a on 1 strong 20 heavy 0 owes 0;tenant b on 1 strong 19 heavy 0 owes 0;");
        Check.same("210 and 209", all.runs(0), 419);
    }

    private static void promise46() {
        Check.same("nobody", new SoManyStairs().who(0), 0);
        SoManyStairs x = three();
        Check.same("c has no run", x.who(0), 3);
        x.later(1);
        x.chalk(1, true);
        x.chalk(3, true);
        Check.same("b", x.who(1), 2);
        Check.same("a and b", x.who(0), 3);
        x.tread(5, false);
        Check.same("nobody", x.who(1), 0);
    }

    private static void promise47() {
        Check.same("none", new SoManyStairs().ask(0, 0), -1);
        SoManyStairs x = three();
        // 0 is in 4 of 9, 1 in 2 + 5, 2 in 2 + 5, 3 in 4.
        Check.same("storey", x.ask(0, 0), 0);
        Check.same("left", x.ask(1, 0), 5);
        x.later(1);
        x.tread(2, true);
        x.tread(3, false);
        // a's: 0 in 1 of 3, 1 in 2, 2 in 2, 3 in 1.
        Check.same("storey", x.ask(0, 1), 0);
        Check.same("left", x.ask(1, 1), 2);
        x.chalk(0, false);
        // (1 2) (2 3): 1 is in one, 0 in none.
        Check.same("storey", x.ask(0, 1), 1);
        Check.same("left", x.ask(1, 1), 1);
        Check.same("as known at 0", x.ask(1, 0), 5);
        Check.same("another what", x.ask(2, 1), -1);
        Check.same("another what", x.ask(-1, 1), -1);
        x.chalk(0, true);
        Check.same("no runs", x.ask(0, 1), -1);
        Check.same("no runs", x.ask(1, 1), -1);
        Check.same("at 0 there are", x.ask(0, 0), 0);
    }
}
