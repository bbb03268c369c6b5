/** The boundary cases of the TAPE, of the text of a HOUSE and its FAULTS, and of about(): promises 1 to 5 and 50. */
final class TextEdges {
    private static final String REST = " on 0 strong 0 heavy 0 owes 0;";
    private static final String[] OWN = {"storeys", "lift", "tenant", "on", "strong", "heavy", "owes", "fails", "counts",
        "moves", "draw", "or", "and", "not", "night", "week", "climbed"};

    private TextEdges() {
    }

    private static String tenants(int n) {
        StringBuilder text = new StringBuilder();
        for (int i = 0; i < n; i++) {
            text.append("tenant ").append((char) ('a' + i)).append(REST);
        }
        return text.toString();
    }

    /** So many numbers, each but the first behind a plus. */
    private static String ones(int n) {
        return "1" + Check.times(n - 1, "+1");
    }

    private static String spaces(int n) {
        return Check.times(n, " ");
    }

    // ---- The face

    @Says("public final class SoManyStairs {")
    private static void theFace() throws java.io.IOException {
        java.util.Set<String> due = new java.util.TreeSet<>();
        for (String line : java.nio.file.Files.readAllLines(EdgeTest.DOCUMENT)) {
            if (line.startsWith("    public ") && line.contains("(")) {
                // Of "public int feed(int a, int b);" is left "int feed(int,int)".
                due.add(line.trim().replace("public ", "").replaceAll(" [a-z]+([,)])", "$1").replace(", ", ",").replace(";", ""));
            }
        }
        java.util.Set<String> face = new java.util.TreeSet<>();
        for (java.lang.reflect.Executable one : SoManyStairs.class.getDeclaredMethods()) {
            if (java.lang.reflect.Modifier.isPublic(one.getModifiers())) {
                face.add(one.toString().replace("public ", "").replace("SoManyStairs.", ""));
            }
        }
        for (java.lang.reflect.Constructor<?> one : SoManyStairs.class.getConstructors()) {
            face.add(one.toString().replace("public ", ""));
        }
        Check.same("methods and the constructor", face.size(), 50);
        Check.is("the face is " + face + ", due is " + due, face.equals(due));
        Check.is("public", java.lang.reflect.Modifier.isPublic(SoManyStairs.class.getModifiers()));
        Check.is("final", java.lang.reflect.Modifier.isFinal(SoManyStairs.class.getModifiers()));
    }

    @Says("The constants: `NONE = -1`: There is none.")
    private static void theConstant() {
        Check.same("NONE", SoManyStairs.NONE, -1);
        Check.same("fields", SoManyStairs.class.getFields().length, 1);
    }

    // ---- The text

    @Says("An object is used for at most 512 calls after it has been made")
    private static void all512CallsAreAnswered() {
        SoManyStairs x = new SoManyStairs();
        for (int i = 1; i <= 511; i++) {
            Check.same("week " + i, x.week(), 0);
        }
        Check.same("the 512th call", x.about(4), 511);
    }

    @Says("A HOUSE is a text of at most 1,600 bytes")
    private static void textOf1600Bytes() {
        Check.good("draw 7" + spaces(1593) + ";", 0);
        Check.same("read to its last byte", Check.told("draw 7" + spaces(1593) + ";").about(5), 7);
        Check.fault("draw 7" + spaces(1593) + "$", 1, 1599);
        Check.fault("draw 7" + spaces(1594), 2, 1600);
    }

    @Says("(empty at first)")
    private static void textIsEmptyAtFirst() {
        SoManyStairs x = new SoManyStairs();
        Check.same("no tenants", x.house(), 0);
        Check.same("no fault", x.fault(0), 0);
        Check.same("nine storeys", x.about(1), 9);
    }

    @Says("house = {line}.")
    private static void noLineIsEnough() {
        Check.good("", 0);
        Check.good(" \n \n", 0);
        Check.good("draw 1;", 0);
        Check.fault("draw 1;draw", 2, 7);
        Check.fault("draw 1;;", 2, 7);
        Check.fault(";", 2, 0);
    }

    private static final String[] WHOLE = {"storeys", "9", "lift", "2", ";", "tenant", "a", "on", "1", "strong", "2", "heavy",
        "3", "owes", "4", "fails", "5", ";", "counts", "(", "night", "<", "7", ")", "*", "3", ";", "moves", "not", "2", "or",
        "climbed", "and", "8", "-", "1", ";", "draw", "3", ";"};

    @Says("line = storeys N [lift N] ; | tenant NAME on N strong N heavy N owes N [fails N] ; | counts e ; | moves e ; | draw N ;.")
    private static void eachTokenOfTheLines() {
        for (int i = 0; i < WHOLE.length; i++) {
            String ahead = "";
            String lines = "";
            for (int k = 0; k < i; k++) {
                ahead += WHOLE[k] + " ";
                lines = WHOLE[k].equals(";") ? ahead : lines;
            }
            if (lines.equals(ahead)) {
                Check.good(ahead, i > 5 ? 1 : 0);
            } else {
                Check.fault(ahead, 2, ahead.length());
            }
            inPlaceOf(i, ahead);
        }
    }

    /** A TOKEN in place of another one, where it can't stand. */
    private static void inPlaceOf(int i, String ahead) {
        String behind = " " + String.join(" ", java.util.Arrays.copyOfRange(WHOLE, i + 1, WHOLE.length));
        if (!WHOLE[i].equals("<") && !WHOLE[i].equals(")")) {
            Check.fault(ahead + ")" + behind, 2, ahead.length());
        }
        if (!WHOLE[i].equals("a")) {
            Check.fault(ahead + "ann" + behind, 2, ahead.length());
        }
        boolean unit = WHOLE[i].equals("night") || WHOLE[i].equals("climbed") || WHOLE[i].equals("(") || WHOLE[i].equals("not");
        if (!unit && !(WHOLE[i].charAt(0) >= '0' && WHOLE[i].charAt(0) <= '9')) {
            Check.fault(ahead + "7" + behind, 2, ahead.length());
        }
    }

    @Says("storeys N [lift N] ;")
    private static void liftAndFailsMayBeLeftOut() {
        Check.good("storeys 9;", 0);
        Check.fault("storeys 9 lift;", 2, 14);
        Check.fault("storeys 9 lift 1 lift 1;", 2, 17);
        Check.good("tenant a" + REST, 1);
        Check.fault("tenant a on 0 strong 0 heavy 0 owes 0 fails;", 2, 43);
        Check.fault("tenant a on 0 strong 0 heavy 0 owes 0 fails 1 fails 1;", 2, 46);
    }

    private static void value(String formula, int due) {
        Check.same(formula, Check.told("moves " + formula + ";").pull(), due);
    }

    @Says("e = both {or both}. both = one {and one}.")
    private static void orBindsLeast() {
        value("1 or 0 and 0", 1);
        value("0 and 0 or 1", 1);
        value("0 or 0 or 1", 1);
        value("1 and 1 and 0", 0);
        value("7", 7);
        Check.fault("moves 1 or;", 2, 10);
        Check.fault("moves or 1;", 2, 6);
        Check.fault("moves 1 and;", 2, 11);
        Check.fault("moves 1 and or 1;", 2, 12);
    }

    @Says("one = not one | sum [(< | > | =) sum].")
    private static void oneRelationAtMost() {
        value("not 3<2", 1);
        value("not not 5", 1);
        value("not 0 and 0", 0);
        value("1+1=2", 1);
        Check.fault("moves 1<2<3;", 2, 9);
        Check.fault("moves 1=2>3;", 2, 9);
        Check.fault("moves 1<not 2;", 2, 8);
        Check.fault("moves 1+not 2;", 2, 8);
        Check.fault("moves 1<;", 2, 8);
        Check.fault("moves not;", 2, 9);
    }

    @Says("sum = term {(+ | -) term}. term = unit {(* | / | %) unit}.")
    private static void fromTheLeft() {
        value("20-3-2", 15);
        value("100/7/2", 7);
        value("100%7*3", 6);
        value("2+3*4", 14);
        value("3*4-2", 10);
        Check.fault("moves -1;", 2, 6);
        Check.fault("moves 1+;", 2, 8);
        Check.fault("moves 1**2;", 2, 8);
    }

    @Says("unit = N | storeys | heavy | night | week | climbed | lift | ( e ).")
    private static void eachUnit() {
        SoManyStairs x = Check.told("storeys 7 lift 3;tenant a on 0 strong 9 heavy 4 owes 0;"
                + "moves storeys*100+heavy*10+lift+climbed*1000+week*5000+night;");
        Check.same("all of them", x.pull(), 743);
        x.climb(0, 2, -1, 0);
        Check.same("two climbed", x.pull(), 2743);
        value("(((5)))", 5);
        Check.fault("moves ();", 2, 7);
        Check.fault("moves (1;", 2, 8);
        Check.fault("moves 1);", 2, 7);
        for (String own : OWN) {
            if (!java.util.Set.of("storeys", "heavy", "night", "week", "climbed", "lift", "not").contains(own)) {
                Check.fault("moves " + own + ";", 2, 6);
            }
        }
    }

    // ---- TOKENS

    @Says("TOKENS: words (a .. z, 8 at most)")
    private static void wordsOfEight() {
        Check.good("tenant abcdefgh" + REST, 1);
        Check.good("tenant z" + REST, 1);
        Check.good("tenant zzzzzzzz" + REST + "tenant zzzzzzz" + REST + "tenant zzzzzzza" + REST, 3);
        Check.fault("tenant abcdefghi" + REST, 1, 7);
        // The signs next to a and z are none of a word.
        Check.fault("tenant ab`" + REST, 1, 9);
        Check.fault("tenant ab{" + REST, 1, 9);
        Check.fault("tenant A" + REST, 1, 7);
        Check.fault("tenant aB" + REST, 1, 8);
    }

    @Says("N (1 to 4 digits)")
    private static void numbersOfFourDigits() {
        value("0", 0);
        value("9999", 9999);
        value("0007", 7);
        value("1234", 1234);
        Check.fault("moves 00000;", 1, 6);
        // The signs next to 0 and 9 are none of a number.
        Check.fault("moves 1:;", 1, 7);
        value("8/2", 4);
    }

    @Says("signs ; ( ) < > = + - * / %")
    private static void eachByteAlone() {
        for (int sign = 0; sign < 256; sign++) {
            boolean token = sign >= 'a' && sign <= 'z' || sign >= '0' && sign <= '9' || ";()<>=+-*/%".indexOf(sign) >= 0;
            if (sign == 32 || sign == 10) {
                Check.good("" + (char) sign, 0);
            } else {
                Check.fault("" + (char) sign, token ? 2 : 1, 0);
            }
        }
        for (String sign : new String[] {"<", ">", "=", "+", "-", "*", "/", "%"}) {
            Check.good("moves (1" + sign + "2);", 0);
        }
    }

    @Says("blanks (32, 10) part them or not;")
    private static void blanks() {
        Check.good("storeys5;draw6;moves(1<2)or(3);tenant a on0 strong0 heavy0 owes0;", 1);
        Check.good(" \n storeys \n 5\n\nlift 3 \n;\n draw\n1 ; ", 0);
        for (int sign : new int[] {0, 9, 11, 12, 13, 160, 138, 255}) {
            Check.fault("draw" + (char) sign + "1;", 1, 4);
        }
        // Blanks ahead of a TOKEN are none of it.
        Check.fault(" \n  $", 1, 4);
        Check.fault("draw  \n 1000;", 4, 8);
    }

    @Says("each is as long as can be;")
    private static void asLongAsCanBe() {
        Check.fault("drawdraw 1;", 2, 0);
        Check.fault("moves notnight;", 2, 6);
        Check.good("moves not night;", 0);
        Check.fault("moves 1 2;", 2, 8);
        value("12", 12);
        Check.fault("tenant a onion", 2, 9);
        Check.same("lifts is a NAME", Check.told("tenant lifts" + REST).about(0), 1);
    }

    @Says("no letter directly behind an N")
    private static void noLetterBehindNumber() {
        Check.fault("tenant a on 0strong 0 heavy 0 owes 0;", 1, 12);
        Check.fault("moves 1and 2;", 1, 6);
        Check.fault("moves 1z;", 1, 6);
        Check.fault("moves 0a;", 1, 6);
        Check.good("moves 1\nand 2;", 0);
        Check.good("moves(1)and(2);", 0);
        // Ahead of one there may be letters, directly behind it all else.
        Check.good("tenant a on0 strong0 heavy0 owes0;moves 1+2-(3)*4/5%6<7 and 8>9 or 1=2;", 1);
    }

    @Says("(what is none of these, a longer word, more digits, a number with a letter behind it: no TOKEN, at its first byte)")
    private static void noTokenAtItsFirstByte() {
        Check.fault("draw 1;@", 1, 7);
        Check.fault("draw 1;abcdefghi", 1, 7);
        Check.fault("draw 1;  " + Check.times(1500, "x"), 1, 9);
        Check.fault("draw 12345;", 1, 5);
        Check.fault("draw " + Check.times(1500, "0") + ";", 1, 5);
        Check.fault("draw 9999x;", 1, 5);
        Check.fault("draw 99999x;", 1, 5);
        Check.fault("draw 4294967297;", 1, 5);
    }

    @Says("Words that stand for themselves here are no NAMES.")
    private static void ownWordsAreNoNames() {
        for (String own : OWN) {
            Check.fault("tenant " + own + REST, 2, 7);
        }
        for (String name : new String[] {"e", "n", "one", "both", "sum", "term", "unit", "line", "house", "name", "storey",
            "tenants", "no", "o", "nott", "a", "fail", "weeks", "climb", "xlift", "ton"}) {
            Check.good("tenant " + name + REST, 1);
        }
    }

    // ---- Numbers of the lines

    @Says("storeys (how many there are above the ground, 1 .. 20;")
    private static void storeysTold() {
        Check.fault("storeys 0;", 4, 8);
        Check.same("one", Check.told("storeys 1;").about(1), 1);
        Check.same("twenty", Check.told("storeys 20;").about(1), 20);
        Check.fault("storeys 21;", 4, 8);
        Check.fault("storeys 9999;", 4, 8);
    }

    @Says("9 if not told;")
    private static void nineStoreysIfNotTold() {
        SoManyStairs x = Check.told("draw 1;");
        Check.same("storeys", x.about(1), 9);
        Check.same("the ninth", x.live(9), 0);
        Check.same("no tenth", x.live(10), -1);
        Check.feed(x, "storeys 4;");
        x.house();
        Check.feed(x, "draw 1;");
        x.house();
        Check.same("whatever was told ahead", x.about(1), 9);
        Check.good("tenant a on 9 strong 0 heavy 0 owes 0;", 1);
        Check.fault("tenant a on 10 strong 0 heavy 0 owes 0;", 4, 12);
    }

    @Says("the lift at one of 0 .. these; 0)")
    private static void liftTold() {
        Check.same("not told", Check.told("storeys 4;").about(2), 0);
        Check.same("on the ground", Check.told("storeys 4 lift 0;").about(2), 0);
        Check.same("at the top", Check.told("storeys 4 lift 4;").about(2), 4);
        Check.same("at the top of all", Check.told("storeys 20 lift 20;").about(2), 20);
        Check.fault("storeys 4 lift 5;", 4, 15);
        Check.fault("storeys 20 lift 21;", 4, 16);
        Check.fault("lift 0;", 2, 0);
    }

    @Says("once, ahead of all others;")
    private static void storeysOnceAndFirst() {
        Check.fault("storeys 4;storeys 4;", 2, 10);
        Check.fault("draw 1;storeys 4;", 2, 7);
        Check.fault("counts 1;\nstoreys 4;", 2, 10);
        Check.fault("moves 1; storeys 4;", 2, 9);
        Check.fault(tenants(1) + "storeys 4;", 2, tenants(1).length());
        Check.good("\n storeys 4;", 0);
    }

    @Says("at most 8 TENANTS")
    private static void eightTenants() {
        Check.good("", 0);
        Check.good(tenants(1), 1);
        Check.good(tenants(8), 8);
        Check.fault(tenants(9), 2, tenants(8).length());
    }

    @Says("(on a storey 0 .. all;")
    private static void tenantOnStorey() {
        SoManyStairs x = Check.told("storeys 3;" + Check.tenant("a", 0, 0, 0, 0) + Check.tenant("b", 3, 0, 0, 0));
        Check.same("on the ground", x.tenant(0, 0), 0);
        Check.same("at the top", x.tenant(1, 0), 3);
        Check.fault("storeys 3;tenant a on 4 strong 0 heavy 0 owes 0;", 4, 22);
        Check.fault("storeys 20;tenant a on 21 strong 0 heavy 0 owes 0;", 4, 23);
        Check.good("storeys 20;" + Check.tenant("a", 20, 0, 0, 0), 1);
    }

    @Says("strong 0 .. 40: so many storeys a week;")
    private static void tenantStrong() {
        SoManyStairs x = Check.told("storeys 20;" + Check.tenant("a", 0, 0, 0, 0) + Check.tenant("b", 0, 40, 0, 0));
        Check.same("none", x.tenant(0, 1), 0);
        Check.same("he can't climb", x.climb(0, 1, -1, 0), -1);
        Check.same("forty", x.tenant(1, 1), 40);
        Check.same("twenty of them", x.climb(1, 20, -1, 0), 200);
        Check.same("the other twenty", x.climb(1, 20, -1, 0), 200);
        Check.same("no more in a week", x.climb(1, 1, -1, 0), -1);
        Check.fault("tenant a on 0 strong 41 heavy 0 owes 0;", 4, 21);
    }

    @Says("heavy 0 .. 9;")
    private static void tenantHeavy() {
        SoManyStairs x = Check.told(Check.tenant("a", 0, 0, 0, 0) + Check.tenant("b", 0, 0, 9, 0));
        Check.same("nothing", x.tenant(0, 2), 0);
        Check.same("nine", x.tenant(1, 2), 9);
        Check.fault("tenant a on 0 strong 0 heavy 10 owes 0;", 4, 29);
    }

    @Says("owes 0 .. 999 stairs a month;")
    private static void tenantOwes() {
        SoManyStairs x = Check.told(Check.tenant("a", 0, 0, 0, 0) + Check.tenant("b", 0, 0, 0, 999));
        Check.same("nothing", x.tenant(0, 3), 0);
        Check.same("999", x.tenant(1, 3), 999);
        Check.fault("tenant a on 0 strong 0 heavy 0 owes 1000;", 4, 36);
    }

    @Says("fails 0 .. 100 of 100, 0 if not told)")
    private static void tenantFails() {
        SoManyStairs x = Check.told("tenant a on 0 strong 9 heavy 0 owes 0 fails 0;tenant b on 0 strong 9 heavy 0 owes 0 fails 100;"
                + "tenant c on 0 strong 9 heavy 0 owes 0;");
        int[] due = {0, 100, 0};
        int[] counted = {10, 0, 10};
        for (int t = 0; t < 3; t++) {
            Check.same("fails " + t, x.tenant(t, 4), due[t]);
            // Seeds 71, 798, 397, ...: rests 71, 98, 97.
            Check.same("climb " + t, x.climb(t, 1, -1, 0), counted[t]);
        }
        Check.fault("tenant a on 0 strong 0 heavy 0 owes 0 fails 101;", 4, 44);
    }

    @Says("numbered as told;")
    private static void numberedAsTold() {
        SoManyStairs x = Check.told(Check.tenant("z", 1, 0, 0, 0) + "draw 1;" + Check.tenant("a", 2, 0, 0, 0)
                + Check.tenant("m", 3, 0, 0, 0));
        for (int t = 0; t < 3; t++) {
            Check.same("tenant " + t, x.tenant(t, 0), t + 1);
        }
        Check.same("none behind the last", x.tenant(3, 0), -1);
    }

    @Says("counts, moves, draw (0 .. 999; 0) once each;")
    private static void drawTold() {
        Check.same("not told", Check.told("moves 1;").about(5), 0);
        Check.same("0", Check.told("draw 0;").about(5), 0);
        Check.same("999", Check.told("draw 999;").about(5), 999);
        Check.fault("draw 1000;", 4, 5);
        Check.good("counts 1;moves 1;draw 1;", 0);
        Check.good("draw 1;moves 1;counts 1;", 0);
        Check.fault("draw 1;draw 1;", 2, 7);
        Check.fault("moves 1;draw 1;moves 1;", 2, 15);
        Check.fault("counts 1;moves 1;counts 1;", 2, 17);
        // Once in each text.
        SoManyStairs x = new SoManyStairs();
        for (int i = 0; i < 5; i++) {
            Check.feed(x, "counts 1;moves " + i + ";draw " + i + ";");
            Check.same("text " + i, x.house(), 0);
            Check.same("its draw", x.about(5), i);
            Check.same("its moves", x.pull(), i);
        }
    }

    @Says("60 units in all, 30 in one e")
    private static void thirtyUnits() {
        String[] thirties = {"counts " + ones(30) + ";", "moves " + ones(30) + ";"};
        Check.same("30", Check.told(thirties[0]).about(11), 30);
        Check.same("60", Check.told(thirties[0] + thirties[1]).about(11), 60);
        Check.same("60", Check.told(thirties[1] + thirties[0]).about(11), 60);
        Check.fault("counts " + ones(31) + ";", 2, 67);
        Check.fault("moves " + ones(31) + ";", 2, 66);
        Check.fault("counts 1;moves " + ones(31) + ";", 2, 75);
        Check.fault(thirties[0] + "moves " + ones(31) + ";", 2, thirties[0].length() + 66);
        // Each kind of unit is one, and so is a bracket, beside those within.
        Check.same("7", Check.told("counts (1+2)*3;moves ((4));").about(11), 7);
        Check.same("6", Check.told("counts storeys+heavy+night+week+climbed+lift;").about(11), 6);
        Check.same("2", Check.told("counts not 1 and not not 2;").about(11), 2);
        Check.good("counts " + ones(28) + "+(1);", 0);
        Check.fault("counts " + ones(29) + "+(1);", 2, 66);
    }

    @Says("(a unit ( e ), or a one behind not, within 6 others at most)")
    private static void withinSixOthers() {
        value(Check.times(7, "(") + "5" + Check.times(7, ")"), 5);
        Check.fault("moves " + Check.times(8, "(") + "5" + Check.times(8, ")") + ";", 2, 13);
        value(Check.times(7, "not ") + "5", 0);
        Check.fault("moves " + Check.times(8, "not ") + "5;", 2, 34);
        value(Check.times(6, "not ") + "(5)", 1);
        Check.fault("moves " + Check.times(7, "not ") + "(5);", 2, 34);
        value(Check.times(6, "(") + "not 5" + Check.times(6, ")"), 0);
        Check.fault("moves " + Check.times(7, "(") + "not 5" + Check.times(7, ")") + ";", 2, 13);
        // Those that stand beside one another are not within one another.
        String seven = Check.times(7, "(") + "1" + Check.times(7, ")");
        value(seven + "+" + seven + "*" + seven, 2);
        value(Check.times(7, "not ") + "0 and " + Check.times(7, "not ") + "0 or " + Check.times(7, "not ") + "0", 1);
        value("(1)+(2)+(3)+(4)+(5)+(6)+(7)+(8)+(9)", 45);
        value("((((((5)+(6))+(7))+(8))+(9))+(10))", 45);
    }

    @Says("30 in one e (a unit ( e ), or a one behind not, within 6 others at most)")
    private static void theLongestFormula() {
        // 30 units, each behind seven nots, 29 ors between: no step of it may be lost. not x7 of 0 is 1.
        String zero = Check.times(7, "not ") + "1";
        String one = Check.times(7, "not ") + "0";
        value(Check.times(29, zero + " or ") + one, 1);
        value(Check.times(29, zero + " or ") + zero, 0);
        value(one + Check.times(29, " and " + one), 1);
        // All thirty at once: each bracket waits for what is behind it.
        value("1+(1+(1+(1+(1+(1+(1+(" + ones(16) + ")))))))", 23);
        value(Check.times(13, "1=1 and ") + "1<2+3*4", 1);
    }

    // ---- FAULTS

    @Says("FAULTS, the first by its place")
    private static void firstByItsPlace() {
        Check.fault("storeys 21 lift 99;$", 4, 8);
        Check.fault("storeys 3 lift 9;$", 4, 15);
        Check.fault("$ storeys 21", 1, 0);
        Check.fault("tenant on $", 2, 7);
        Check.fault("tenant $ on", 1, 7);
        Check.fault(tenants(1) + "tenant a on 99 $", 3, tenants(1).length() + 7);
        Check.fault("tenant a on 10 strong 41 heavy 10 owes 1000 fails 101", 4, 12);
        Check.fault("draw 1000 12345", 4, 5);
        Check.fault("draw 1 12345 1000", 1, 7);
    }

    @Says("(bytes from 0; the end: the text's length)")
    private static void endOfTheText() {
        Check.fault("$", 1, 0);
        Check.fault("storeys", 2, 7);
        Check.fault("storeys 3", 2, 9);
        Check.fault("storeys 3 \n ", 2, 12);
        Check.fault("moves (1", 2, 8);
        Check.fault("moves ((1)", 2, 10);
        Check.fault("tenant", 2, 6);
        Check.fault("draw 5" + spaces(1594), 2, 1600);
    }

    @Says("at one place the least")
    private static void theLeastAtOnePlace() {
        Check.fault("storeys 12345;", 1, 8);
        Check.fault("tenant 12345 on", 1, 7);
        Check.fault("draw 1 abcdefghi", 1, 7);
        Check.fault("moves " + ones(30) + "+12345;", 1, 66);
        Check.fault("moves " + ones(30) + "+$;", 1, 66);
        Check.fault("moves " + Check.times(7, "(") + "$", 1, 13);
        Check.fault(tenants(8) + "$", 1, tenants(8).length());
    }

    @Says("1 no TOKEN;")
    private static void faultOne() {
        Check.fault("#", 1, 0);
        Check.fault("draw 7;\t", 1, 7);
        Check.fault("tenant a on 0 strong 0 heavy 0 owes 0,", 1, 37);
    }

    @Says("2 one that can't stand there")
    private static void faultTwo() {
        Check.fault("7", 2, 0);
        Check.fault("a", 2, 0);
        Check.fault("tenant 7", 2, 7);
        Check.fault("tenant a b", 2, 9);
        Check.fault("storeys a", 2, 8);
        Check.fault("draw 7 8", 2, 7);
        Check.fault("moves 7 a", 2, 8);
        Check.fault("moves tenants;", 2, 6);
    }

    @Says("(one of a sort too many or a second time, storeys behind another line: at the line's first word;")
    private static void atTheFirstWord() {
        Check.fault(tenants(8) + " tenant a on 99", 2, tenants(8).length() + 1);
        Check.fault("draw 7;\n\ndraw 1000;", 2, 9);
        Check.fault("moves 7; moves $", 2, 9);
        Check.fault("counts 7; counts", 2, 10);
        Check.fault("storeys 7; storeys 21", 2, 11);
        Check.fault("draw 7; storeys 21", 2, 8);
    }

    @Says("a unit too many, what is within 7 others: at its first TOKEN, or the not)")
    private static void atItsFirstToken() {
        for (String unit : new String[] {"1", "storeys", "heavy", "night", "week", "climbed", "lift", "(1)", "(", "(((((((("}) {
            Check.fault("moves " + ones(30) + "+" + unit + ";", 2, 66);
            Check.fault("moves " + ones(30) + "*  " + unit + ";", 2, 68);
        }
        Check.fault("moves " + ones(30) + " or not not 1;", 2, 77);
        Check.fault("moves " + ones(30) + "+;", 2, 66);
        Check.fault("moves (" + ones(29) + "+);", 2, 65);
        Check.fault("moves " + Check.times(7, "(") + "1+((2))", 2, 15);
        Check.fault("moves " + Check.times(7, "(") + "1 and  not 2", 2, 20);
        Check.fault("moves " + Check.times(8, "("), 2, 13);
        Check.fault("moves " + Check.times(8, "not "), 2, 34);
    }

    @Says("3 a NAME told already;")
    private static void faultThree() {
        Check.fault(tenants(7) + "tenant a", 3, tenants(7).length() + 7);
        Check.fault(tenants(7) + "tenant g" + REST, 3, tenants(7).length() + 7);
        Check.good(tenants(1) + "tenant aa" + REST, 2);
        Check.good("tenant abcdefgh" + REST + "tenant bbcdefgh" + REST + "tenant abcdefgg" + REST, 3);
        // Names are told in one text alone.
        SoManyStairs x = Check.told(tenants(3));
        Check.feed(x, tenants(2) + "tenant b");
        Check.same("b is there", x.house(), -1);
        Check.same("fault", x.fault(0), 3);
        Check.feed(x, tenants(3));
        Check.same("once more", x.house(), 3);
        Check.feed(x, "tenant c" + REST);
        Check.same("of the text before", x.house(), 1);
    }

    @Says("4 a number that can't be.")
    private static void faultFour() {
        Check.fault("storeys 0 lift 0;", 4, 8);
        Check.fault("storeys 21", 4, 8);
        Check.fault("tenant a on 9999", 4, 12);
        Check.fault("draw 9999", 4, 5);
        Check.good("counts 9999;moves 0;", 0);
    }

    // ---- Promises 1 to 5

    @Says(promise = 1, value = "An empty HOUSE (9 storeys, the lift at 0).")
    private static void aNewObject() {
        SoManyStairs x = new SoManyStairs();
        int[] due = {0, 9, 0, 0, 0, 0, 0, 0, 0, 0, 0, 0, 0};
        for (int what = 0; what < due.length; what++) {
            Check.same("about(" + what + ")", x.about(what), due[what]);
        }
        Check.same("no tenant", x.tenant(0, 0), -1);
        Check.same("counts without a climber", x.climb(0, 1, -1, 0), -1);
        Check.isNot("nothing to undo", x.undo());
        Check.isNot("nothing to redo", x.redo());
        for (int box = 0; box < 3; box++) {
            Check.same("nothing in box " + box, x.back(box), -1);
        }
        // What one object has told is none of another one's.
        SoManyStairs y = Check.told("storeys 3 lift 2;draw 5;" + tenants(2));
        y.later(7);
        Check.same("another one's storeys", x.about(1), 9);
        Check.same("a new one's time", new SoManyStairs().about(9), 0);
    }

    @Says(promise = 2, value = "of each number the highest first")
    private static void highestByteFirst() {
        SoManyStairs x = new SoManyStairs();
        // "draw 12", "3;" and blanks behind.
        x.feed(0x64726177, 0x20313233, 0x3b202020, 0x20202020, 0x20202020);
        x.house();
        Check.same("draw 123;", x.about(5), 123);
        // Each byte of each of the five, of a number below 0, too.
        int[] one = {0xff202020, 0x20ff2020, 0x2020ff20, 0x202020ff};
        for (int i = 0; i < 20; i++) {
            int[] five = {0x20202020, 0x20202020, 0x20202020, 0x20202020, 0x20202020};
            five[i / 4] = one[i % 4];
            x.feed(five[0], five[1], five[2], five[3], five[4]);
            x.house();
            Check.same("byte " + i, x.fault(1), i);
            Check.same("is none", x.fault(0), 1);
        }
    }

    @Says(promise = 2, value = "Twenty bytes come behind those on the TAPE")
    private static void behindThoseOnTheTape() {
        SoManyStairs x = new SoManyStairs();
        // "draw " is left of the first twenty.
        x.feed(0x64726177, 0x20353535, 0x35353535, 0x35353535, 0x35353535);
        x.end(5);
        Check.same("25", x.feed(0x3435363b, 0x20202020, 0x20202020, 0x20202020, 0x20202020), 25);
        x.house();
        Check.same("draw 456;", x.about(5), 456);
        Check.same("without a fault", x.fault(0), 0);
    }

    @Says(promise = 2, value = "how many there are; NONE, and nothing comes, if there would be more than 1,600.")
    private static void aFullTape() {
        SoManyStairs x = new SoManyStairs();
        for (int i = 1; i <= 80; i++) {
            Check.same("feed " + i, x.feed(0x20202020, 0x20202020, 0x20202020, 0x20202020, 0x20202020), 20 * i);
        }
        Check.same("one more", x.feed(0, 0, 0, 0, 0), -1);
        Check.same("bytes", x.about(10), 1600);
        x.end(1581);
        Check.same("one byte too many", x.feed(0, 0, 0, 0, 0), -1);
        Check.same("bytes", x.about(10), 1581);
        x.end(1580);
        Check.same("just as many", x.feed(0x20202020, 0x20202020, 0x20202020, 0x20202020, 0x20202020), 1600);
        Check.same("nothing came but blanks", x.house(), 0);
        SoManyStairs y = new SoManyStairs();
        Check.feed(y, spaces(1600));
        y.end(1590);
        Check.same("ten bytes too many", y.feed(0x21212121, 0x21212121, 0x21212121, 0x21212121, 0x21212121), -1);
        y.house();
        Check.same("nothing came", y.fault(0), 0);
    }

    @Says(promise = 3, value = "The TAPE has its first n bytes: n")
    private static void firstBytes() {
        SoManyStairs x = new SoManyStairs();
        Check.same("none of none", x.end(0), 0);
        Check.feed(x, "draw 7;draw 8;");
        Check.same("all", x.end(14), 14);
        Check.same("seven", x.end(7), 7);
        Check.same("bytes", x.about(10), 7);
        Check.same("a good text", x.house(), 0);
        Check.same("draw 7;", x.about(5), 7);
        Check.feed(x, "draw 8;");
        Check.same("none", x.end(0), 0);
        x.house();
        Check.same("an empty text", x.about(5), 0);
    }

    @Says(promise = 3, value = "NONE, doing nothing, if it has not so many")
    private static void notSoMany() {
        SoManyStairs x = new SoManyStairs();
        Check.same("of none", x.end(1), -1);
        x.feed(0, 0, 0, 0, 0);
        for (int n : new int[] {21, 1600, 1601, Integer.MAX_VALUE}) {
            Check.same("end(" + n + ")", x.end(n), -1);
            Check.same("bytes", x.about(10), 20);
        }
        x.end(7);
        Check.same("those cut off are gone", x.end(8), -1);
        Check.same("bytes", x.about(10), 7);
        x.house();
        Check.same("those of a HOUSE, too", x.end(1), -1);
    }

    @Says(promise = 3, value = "or n is below 0.")
    private static void endBelowZero() {
        SoManyStairs x = new SoManyStairs();
        x.feed(0, 0, 0, 0, 0);
        for (int n : new int[] {-1, -20, Integer.MIN_VALUE}) {
            Check.same("end(" + n + ")", x.end(n), -1);
            Check.same("bytes", x.about(10), 20);
        }
    }

    /** A house in which all that can be is there. */
    private static SoManyStairs busy() {
        SoManyStairs x = Check.told("storeys 4 lift 1;draw 5;counts 7;moves 1;" + Check.tenant("a", 1, 9, 3, 4)
                + Check.tenant("b", 2, 8, 0, 50));
        Check.weeks(x, 5);
        x.climb(0, 2, -1, 0);
        x.climb(1, 1, -1, 0);
        x.undo();
        x.image(0);
        x.image(1);
        x.image(2);
        x.chalk(1, true);
        x.tread(1, true);
        x.later(5);
        x.let();
        return x;
    }

    @Says(promise = 4, value = "The TAPE (empty then) is the HOUSE (all as told,")
    private static void allAsTold() {
        SoManyStairs x = busy();
        Check.feed(x, "storeys 20 lift 7;draw 999;" + Check.tenant("x", 20, 40, 9, 999) + "moves 3;");
        Check.same("one tenant", x.house(), 1);
        int[] about = {1, 20, 7, 0, 0, 999, 0, 0, 0, 5, 0, 1, 0};
        for (int what = 0; what < about.length; what++) {
            Check.same("about(" + what + ")", x.about(what), about[what]);
        }
        int[] tenant = {20, 40, 9, 999, 0, 40, 0, 0, 999};
        for (int what = 0; what < tenant.length; what++) {
            Check.same("tenant(0, " + what + ")", x.tenant(0, what), tenant[what]);
        }
        Check.same("no other tenant", x.tenant(1, 0), -1);
        Check.same("moves as told", x.pull(), 3);
        Check.same("counts not told", x.worth(0, 5, -1, 0, 0), 50);
        x.house();
        Check.same("moves not told", x.pull(), 0);
        Check.same("storeys not told", x.about(1), 9);
    }

    @Says(promise = 4, value = "is the HOUSE (all as told, week 0, no ACTS are kept,")
    private static void nothingIsLeftOfEarlierTexts() {
        SoManyStairs x = new SoManyStairs();
        String full = "storeys 20 lift 7;draw 999;counts 5;moves 3;tenant x on 1 strong 40 heavy 9 owes 9 fails 100;";
        for (int text = 0; text < 6; text++) {
            boolean isFull = text < 3;
            Check.feed(x, isFull ? full : Check.tenant("y", 0, 2, 0, 0));
            Check.same("text " + text, x.house(), 1);
            int[] about = {1, isFull ? 20 : 9, isFull ? 7 : 0, 0, 0, isFull ? 999 : 0};
            for (int what = 0; what < about.length; what++) {
                Check.same("text " + text + ", about(" + what + ")", x.about(what), about[what]);
            }
            Check.same("units", x.about(11), isFull ? 2 : 0);
            Check.same("fails", x.tenant(0, 4), isFull ? 100 : 0);
            Check.same("counts", x.worth(0, 2, -1, 0, 0), isFull ? 5 : 20);
            Check.same("moves", x.pull(), isFull ? 3 : 0);
        }
        // However long the formulas of earlier texts were, and however many texts there were.
        String longest = Check.times(29, "not not not not not not not 1 or ") + "not not not not not not not 0;";
        SoManyStairs y = new SoManyStairs();
        SoManyStairs z = new SoManyStairs();
        for (int text = 0; text < 30; text++) {
            Check.feed(y, text < 2 ? "moves " + longest : "");
            y.house();
            Check.same("moves of text " + text, y.pull(), text < 2 ? 1 : 0);
            Check.same("lever of text " + text, y.lever(), text < 2 ? 0 : 10);
            Check.feed(z, (text < 2 ? "counts " + longest : "") + Check.tenant("a", 0, 2, 0, 0));
            z.house();
            Check.same("counts of text " + text, z.worth(0, 2, -1, 0, 0), text < 2 ? 1 : 20);
        }
    }

    @Says(promise = 4, value = "week 0,")
    private static void weekZero() {
        SoManyStairs x = busy();
        Check.same("five weeks on", x.about(4), 5);
        x.house();
        Check.same("week 0", x.about(4), 0);
    }

    @Says(promise = 4, value = "no ACTS are kept,")
    private static void noActsBehindHouse() {
        SoManyStairs x = busy();
        x.house();
        Check.same("to undo", x.about(6), 0);
        Check.same("to redo", x.about(7), 0);
        Check.isNot("undo", x.undo());
        Check.isNot("redo", x.redo());
        x.week();
        Check.is("the first act of the new one", x.undo());
        Check.isNot("no act of the old one", x.undo());
    }

    @Says(promise = 4, value = "no CHALK,")
    private static void noChalkBehindHouse() {
        SoManyStairs x = busy();
        x.house();
        Check.same("none", x.about(8), 0);
        Check.isNot("none to untell", x.untell(0));
        Check.same("from 0 on", x.chalk(1, true), 0);
    }

    @Says(promise = 4, value = "nothing lies there,")
    private static void nothingLiesBehindHouse() {
        SoManyStairs x = busy();
        Check.same("two lie", x.about(12), 2);
        x.house();
        Check.lies("nothing", x);
    }

    @Says(promise = 4, value = "BOXES are empty then;")
    private static void boxesAreEmptyBehindHouse() {
        SoManyStairs x = busy();
        x.house();
        for (int box = 0; box < 3; box++) {
            Check.same("box " + box, x.back(box), -1);
        }
    }

    @Says(promise = 4, value = "the TIME stays)")
    private static void timeStaysBehindHouse() {
        SoManyStairs x = busy();
        x.house();
        Check.same("the time", x.about(9), 5);
    }

    @Says(promise = 4, value = "how many TENANTS;")
    private static void howManyTenants() {
        for (int n = 0; n <= 8; n++) {
            SoManyStairs x = new SoManyStairs();
            Check.feed(x, tenants(n));
            Check.same("tenants", x.house(), n);
            Check.same("about them", x.about(0), n);
        }
    }

    @Says(promise = 4, value = "NONE: a FAULT (the TAPE is empty then, too; all else stays).")
    private static void aFaultChangesNothing() {
        SoManyStairs x = busy();
        int[] before = Check.state(x);
        String[] texts = {"$", "storeys 20 lift 20;draw 7;counts 8;moves 9;" + tenants(8) + "x", "storeys 21;",
            tenants(2) + "tenant a"};
        for (String text : texts) {
            Check.feed(x, text);
            Check.same("house() of " + text, x.house(), -1);
        }
        Check.stays("behind faults", x, before);
        int[] b = {2, 8, 0, 50};
        for (int what = 0; what < b.length; what++) {
            Check.same("b is as told", x.tenant(1, what), b[what]);
        }
        Check.same("counts stay", x.worth(0, 1, -1, 0, 0), 7);
        Check.same("moves stay", x.pull(), 1);
        Check.same("marks stay", x.runs(0), runsOfA());
        Check.is("acts stay", x.redo());
        for (int box = 0; box < 3; box++) {
            Check.same("boxes stay", x.back(box), 5);
        }
        Check.feed(x, "$");
        x.feed(0, 0, 0, 0, 0);
        x.house();
        Check.same("the tape is empty then, too", x.about(10), 0);
    }

    /** Of four storeys those runs that hold the first one, of a who is heavy 3; b is too light for "heavy 1". */
    private static int runsOfA() {
        // (0 1) (0 2) (0 3) (0 4) (1 2) (1 3) (1 4)
        return 7;
    }

    @Says(promise = 5, value = "Of the latest house()")
    private static void ofTheLatest() {
        SoManyStairs x = new SoManyStairs();
        Check.feed(x, "draw 1000;");
        x.house();
        Check.same("4", x.fault(0), 4);
        Check.same("at 5", x.fault(1), 5);
        Check.feed(x, "  $");
        Check.same("still", x.fault(0), 4);
        x.house();
        Check.same("1", x.fault(0), 1);
        Check.same("at 2", x.fault(1), 2);
    }

    @Says(promise = 5, value = "(0: without; ahead of any, too), 1: its place (NONE).")
    private static void withoutFault() {
        SoManyStairs x = new SoManyStairs();
        Check.same("ahead of any", x.fault(0), 0);
        Check.same("no place", x.fault(1), -1);
        Check.feed(x, "$");
        x.house();
        Check.same("a fault at 0", x.fault(1), 0);
        x.house();
        Check.same("without", x.fault(0), 0);
        Check.same("no place", x.fault(1), -1);
    }

    @Says(promise = 5, value = "NONE for another what.")
    private static void faultOfAnotherWhat() {
        SoManyStairs x = new SoManyStairs();
        Check.feed(x, "draw 1 $");
        x.house();
        for (int what : Check.NEVER) {
            Check.same("fault(" + what + ")", x.fault(what), -1);
        }
        Check.same("fault(-1)", x.fault(-1), -1);
        Check.same("fault(2)", x.fault(2), -1);
    }

    // ---- Promise 50

    @Says(promise = 50, value = "What 0: TENANTS, 1: storeys, 2: where the lift is, 3: storeys climbed this week, 4: the week, 5: the SEED, "
            + "6: ACTS that can be undone, 7: redone, 8: CHALK, 9: the TIME, 10: bytes on the TAPE, 11: units, 12: numbers that lie there.")
    private static void aboutEach() {
        SoManyStairs x = busy();
        x.climb(1, 3, -1, 0);
        x.climb(1, 1, -1, 0);
        x.climb(1, 1, -1, 0);
        x.undo();
        x.undo();
        x.untell(1);
        x.feed(0, 0, 0, 0, 0);
        x.end(13);
        // Five weeks up by one from 1, four storeys at most; the SEED went on twice: 5, 756, 643.
        int[] due = {2, 4, 4, 5, 5, 643, 7, 2, 2, 5, 13, 2, 2};
        for (int what = 0; what < due.length; what++) {
            Check.same("about(" + what + ")", x.about(what), due[what]);
        }
    }

    @Says(promise = 50, value = "NONE for another what.")
    private static void aboutAnotherWhat() {
        SoManyStairs x = busy();
        for (int what : Check.NEVER) {
            Check.same("about(" + what + ")", x.about(what), -1);
        }
        Check.same("about(-1)", x.about(-1), -1);
        Check.same("about(13)", x.about(13), -1);
    }
}
