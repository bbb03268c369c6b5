/** Texts of HOUSES as they come, and broken ones. */
final class Texts {
    private final Draws draws;
    private final boolean rich;

    /** Rich: climbs count so much that what is paid gets near to its bound. */
    Texts(Draws draws, boolean rich) {
        this.draws = draws;
        this.rich = rich;
    }

    String house() {
        StringBuilder text = new StringBuilder();
        int all = 9;
        if (!draws.oneIn(5)) {
            all = draws.oneIn(3) ? draws.from(1, 20) : draws.from(2, 9);
            text.append("storeys ").append(all);
            if (draws.oneIn(2)) {
                text.append(" lift ").append(draws.below(all + 1));
            }
            text.append(";");
        }
        int tenants = draws.of(0, 1, 2, 2, 3, 3, 4, 4, 5, 5, 6, 6, 7, 8);
        int mostOwed = draws.of(0, 5, 60, 200, 999);
        int mostStrong = draws.of(3, 8, 15, 25, 40);
        if (rich) {
            mostOwed = draws.of(999, 999, 60);
            mostStrong = 40;
        }
        int counts = rich ? 0 : draws.below(tenants + 3);
        int moves = draws.below(tenants + 3);
        int draw = draws.below(tenants + 3);
        for (int t = 0; t <= tenants + 2; t++) {
            if (t == counts) {
                text.append(gap()).append("counts ").append(counted()).append(";");
            }
            if (t == moves) {
                text.append(gap()).append("moves ").append(draws.oneIn(3) ? longFormula() : plainMoves()).append(";");
            }
            if (t == draw) {
                text.append(gap()).append("draw ").append(draws.below(1000)).append(";");
            }
            if (t < tenants) {
                text.append(gap()).append(tenant(t, all, mostStrong, mostOwed));
            }
        }
        return text.length() <= 1600 ? text.toString() : text.substring(0, 1600);
    }

    private String counted() {
        if (rich) {
            return draws.of("999", "9999*storeys", "333*storeys", "500+climbed");
        }
        return draws.oneIn(3) ? longFormula() : plainFormula();
    }

    private String longFormula() {
        return formula(draws.of(2, 2, 2, 3, 4, 7));
    }

    private String gap() {
        return draws.of("", " ", "\n", "  \n ");
    }

    private String tenant(int t, int all, int mostStrong, int mostOwed) {
        StringBuilder text = new StringBuilder("tenant ");
        if (draws.oneIn(40)) {
            text.append("ann");
        } else {
            text.append("abcdefgh".charAt(t)).append(draws.of("", "nn", "storey", "lift", "on"));
        }
        text.append(draws.of(" on ", " on", "\non ")).append(draws.oneIn(4) ? 0 : draws.below(all + 1));
        text.append(" strong ").append(draws.below(mostStrong + 1));
        text.append(" heavy ").append(draws.below(10));
        text.append(" owes ").append(draws.below(mostOwed + 1));
        if (draws.oneIn(3)) {
            text.append(" fails ").append(draws.of(0, 10, 25, 50, 64, 99, 100));
        }
        return text.append(";").toString();
    }

    private String plainFormula() {
        return draws.of("storeys*10", "storeys*10/(1+night)+heavy*2", "storeys*storeys", "999", "0",
                "100-climbed", "storeys*(7-storeys)+climbed", "(climbed%3=0)*storeys*20+storeys",
                "storeys*(climbed+lift)", "storeys%4*15", "9999*storeys", "0-5", "(lift<3)*storeys*9",
                "week*storeys+storeys", "storeys>2 and not night", "(storeys=3)*77+(storeys=5)*120");
    }

    private String plainMoves() {
        return draws.of("climbed/5-heavy/7", "1", "0-1", "climbed-lift", "climbed/10", "(week%2)*2-1",
                "5-2*lift", "week%5-2", "9999*9999*9999*climbed", "9999*9999*9999*9999*lift+1", "storeys-lift*2",
                "(lift<storeys)*3-(lift=storeys)*100", "climbed%7-3");
    }

    private String formula(int depth) {
        StringBuilder text = new StringBuilder(one(depth));
        for (int i = draws.of(0, 0, 0, 1, 2); i > 0; i--) {
            text.append(draws.of(" and ", " or ")).append(one(depth));
        }
        return text.toString();
    }

    private String one(int depth) {
        if (draws.oneIn(8)) {
            return "not " + one(depth);
        }
        String sum = sum(depth);
        return draws.oneIn(3) ? sum + draws.of("<", ">", "=", " < ") + sum(depth) : sum;
    }

    private String sum(int depth) {
        StringBuilder text = new StringBuilder(unit(depth));
        for (int i = draws.of(0, 1, 1, 2, 3); i > 0; i--) {
            text.append(draws.of("+", "-", "*", "/", "%", " + ", "\n*\n")).append(unit(depth));
        }
        return text.toString();
    }

    private String unit(int depth) {
        if (depth > 0 && draws.oneIn(4)) {
            return "(" + formula(depth - 1) + ")";
        }
        return draws.of("storeys", "heavy", "night", "week", "climbed", "lift", "storeys", "climbed",
                "" + draws.below(10), "" + draws.below(100), "" + draws.below(10000));
    }

    /** Here and there something is put in, taken out or told twice. */
    String broken(String text) {
        StringBuilder broken = new StringBuilder(text);
        for (int i = draws.from(1, 3); i > 0; i--) {
            int at = draws.below(broken.length() + 1);
            int behind = Math.min(broken.length(), at + draws.from(1, 12));
            switch (draws.below(8)) {
                case 0 -> broken.delete(at, behind);
                case 1 -> broken.insert(at, broken.substring(at, behind));
                case 2 -> broken.insert(at, piece());
                case 3 -> broken.replace(at, behind, piece());
                case 4 -> broken.setLength(at);
                case 5 -> replaceFrom(broken, at, "0123456789", draws.of("0", "1", "9", "10", "20", "21", "40", "41",
                        "100", "101", "999", "1000", "9999", "10000", "007"));
                default -> replaceFrom(broken, at, "abcdefghijklmnopqrstuvwxyz", draws.of("storeys", "a", "b", "ann",
                        "bnn", "on", "strong", "heavy", "owes", "fails", "counts", "moves", "draw", "or", "and", "not",
                        "night", "week", "climbed", "lift", "tenant"));
            }
        }
        return broken.length() <= 1600 ? broken.toString() : broken.substring(0, 1600);
    }

    /** The next run of such signs, from a place on, becomes another. */
    private static void replaceFrom(StringBuilder text, int at, String signs, String by) {
        int from = at;
        while (from < text.length() && signs.indexOf(text.charAt(from)) < 0) {
            from++;
        }
        int to = from;
        while (to < text.length() && signs.indexOf(text.charAt(to)) >= 0) {
            to++;
        }
        text.replace(from, to, by);
    }

    private String piece() {
        return draws.of(";", "(", ")", "not ", "not not not not ", "((((", "12345", "9", "1000", "999", "x", "$", "A",
                "tenant a on 0 strong 1 heavy 1 owes 1;", "storeys 3;", "draw 7;", "counts 1;", "moves 1;", " ",
                "\n", "\t", "" + (char) 233, "1+1+1+1+1+1+1+1+1+1+1+1+1+1+", " and ", " or ", "<", "=", "fails 3",
                "lift 2", "abcdefgh", "abcdefghi", "0007", "12a");
    }
}
