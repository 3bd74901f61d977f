/** For each promise of the document ordinary inputs, the edges that it names, and wrong inputs. */
public final class PromisesTest {
    private static final int BAD = -1, NOT = -2, FULL = -3, NONE = -4, NULL = -11, CAST = -12, INDEX = -13, SIZE = -14;
    private static final int LOW = Integer.MIN_VALUE, HIGH = Integer.MAX_VALUE;

    private static String promise = "";

    private static void due(String call, long got, long want) {
        Due.due("promise " + promise + ": " + call, got, want);
    }

    /** Counts 0 to 12, in order. */
    private static void counts(LawnRings x, int... want) {
        for (int i = 0; i < want.length; i++) {
            due("count(" + i + ")", x.count(i), want[i]);
        }
    }

    private static void cells(LawnRings x, int what, int... want) {
        for (int c = 0; c < want.length; c++) {
            due("cell(" + c + ", " + what + ")", x.cell(c, what), want[c]);
        }
    }

    public static void main(String[] args) {
        newObject();
        lawn();
        soil();
        sprinkler();
        of();
        cellFallsAndTakes();
        cellWrong();
        turn();
        rule();
        type();
        gardenFaults();
        gardenStands();
        count();
        minutes();
        minutesAtTheirMost();
        runoffAtItsMost();
        sun();
        move();
        drift();
        undo();
        undoIsOfSteps();
        undoIsEmptied();
        seed();
        ahead();
        wrongs();
        enough();
        stand();
        set();
        turns();
        image();
        restore();
        tins();
        tinsRefused();
        film();
        filmCuts();
        sheet();
        drop();
        item();
        copy();
        copyRefused();
        Due.end();
    }

    private static void newObject() {
        promise = "1";
        LawnRings x = new LawnRings();
        counts(x, 4, 5, 0, 0, 0, 0, 2, 10, 20, 0, 0, 20, 0);
        for (int c = 0; c < 20; c++) {
            due("cell 0", x.cell(c, 0), 0);
            due("cell 1", x.cell(c, 1), 0);
            due("cell 2", x.cell(c, 2), 0);
            due("cell 3", x.cell(c, 3), 0);
            due("cell 4", x.cell(c, 4), 1);
        }
        due("cell(20, 0)", x.cell(20, 0), BAD);
        due("of(0, 0)", x.of(0, 0), BAD);
        due("undo()", x.undo(), NONE);
        due("restore()", x.restore(), NONE);
        for (int s = 0; s < 4; s++) {
            due("drop(" + s + ")", x.drop(s), NULL);
        }
        due("type(65)", x.type(65), 1);
        due("seed(5)", x.seed(5), 1);
    }

    private static void lawn() {
        promise = "2";
        LawnRings x = new LawnRings();
        due("lawn(2, 2)", x.lawn(2, 2), 4);
        due("lawn(8, 8)", x.lawn(8, 8), 64);
        due("cell(63, 0)", x.cell(63, 0), 0);
        due("cell(64, 0)", x.cell(64, 0), BAD);
        due("lawn(2, 8)", x.lawn(2, 8), 16);
        counts(x, 2, 8);
        due("lawn(3, 7)", x.lawn(3, 7), 21);
        Due.garden(x, "cc/cc;q0049,q0049");
        x.rule(0, 2);
        x.rule(1, 3);
        x.rule(2, 7);
        x.rule(3, 99);
        x.rule(0, 0);
        x.turn(0, 1);
        x.seed(77);
        x.minutes(3);
        x.rule(0, 2);
        int[] wrong = {1, 9, 0, -1, LOW, HIGH};
        for (int v : wrong) {
            due("lawn(" + v + ", 3)", x.lawn(v, 3), BAD);
            due("lawn(3, " + v + ")", x.lawn(3, v), BAD);
        }
        // 132 fall in a minute, 20 are taken
        counts(x, 2, 2, 2, 1, 3, 2, 3, 7, 99, 336, 60, 0, 3);
        due("lawn(2, 3)", x.lawn(2, 3), 6);
        counts(x, 2, 3, 0, 0, 0, 2, 3, 7, 99, 0, 0, 6, 0);
        cells(x, 0, 0, 0, 0, 0, 0, 0);
        cells(x, 1, 0, 0, 0, 0, 0, 0);
        due("of(0, 0)", x.of(0, 0), BAD);
        due("seed(1)", x.seed(1), 77);
        due("sprinkler", x.sprinkler(0, 0, 0, 1), 0);
        due("of(0, 4)", x.of(0, 4), 0);
    }

    private static void soil() {
        promise = "3";
        LawnRings x = new LawnRings();
        due("soil(0, 1)", x.soil(0, 1), 0);
        due("soil(0, 2)", x.soil(0, 2), 1);
        due("soil(0, 2)", x.soil(0, 2), 2);
        due("soil(0, 0)", x.soil(0, 0), 2);
        due("soil(19, 2)", x.soil(19, 2), 0);
        due("cell(19, 0)", x.cell(19, 0), 2);
        int[] wrongCells = {-1, 20, 64, LOW, HIGH};
        for (int c : wrongCells) {
            due("soil(" + c + ", 1)", x.soil(c, 1), BAD);
        }
        int[] wrongSoils = {-1, 3, LOW, HIGH};
        for (int s : wrongSoils) {
            due("soil(19, " + s + ")", x.soil(19, s), BAD);
        }
        due("cell(19, 0)", x.cell(19, 0), 2);
        x.sprinkler(3, 3, 0, 9);
        x.turn(0, 1);
        x.minutes(2);
        due("soil(3, 2)", x.soil(3, 2), 0);
        due("it stays wet", x.cell(3, 1), 16);
        due("what may be undone stays", x.count(12), 2);
        x.undo();
        due("it stays path", x.cell(3, 0), 2);
    }

    private static void sprinkler() {
        promise = "4";
        LawnRings x = new LawnRings();
        x.minutes(2);
        int[][] wrong = {{-1, 0, 0, 1}, {5, 0, 0, 1}, {0, -1, 0, 1}, {0, 20, 0, 1}, {0, 0, -1, 1}, {0, 0, 5, 1},
            {0, 0, 0, 0}, {0, 0, 0, 10}, {LOW, 0, 0, 1}, {0, HIGH, 0, 1}, {0, 0, HIGH, 1}, {0, 0, 0, LOW}};
        for (int[] w : wrong) {
            due("a wrong sprinkler", x.sprinkler(w[0], w[1], w[2], w[3]), BAD);
        }
        due("count(2)", x.count(2), 0);
        due("count(12)", x.count(12), 2);
        due("sprinkler 0", x.sprinkler(0, 0, 0, 1), 0);
        due("count(12)", x.count(12), 0);
        due("sprinkler 1", x.sprinkler(4, 19, 4, 9), 1);
        due("sprinkler 2", x.sprinkler(2, 19, 4, 9), 2);
        due("sprinkler 3", x.sprinkler(3, 1, 1, 2), 3);
        due("sprinkler 4", x.sprinkler(1, 1, 2, 3), 4);
        x.minutes(3);
        due("a sixth", x.sprinkler(0, 0, 0, 1), FULL);
        for (int[] w : wrong) {
            due("a wrong sixth", x.sprinkler(w[0], w[1], w[2], w[3]), BAD);
        }
        due("count(12)", x.count(12), 3);
        due("count(2)", x.count(2), 5);
        due("count(3)", x.count(3), 0);
    }

    private static void of() {
        promise = "5";
        // kind, reach, power, how much it throws from row 3, column 3 of 8 rows, 8 columns
        int[][] kinds = {{0, 2, 3, 35}, {0, 4, 3, 35}, {0, 0, 9, 9}, {0, 1, 1, 1}, {1, 2, 3, 25}, {1, 2, 1, 25},
            {1, 1, 9, 36}, {2, 2, 3, 56}, {2, 0, 9, 36}, {3, 4, 3, 2}, {3, 0, 1, 2}, {3, 2, 9, 8}, {4, 3, 3, 107},
            {4, 4, 1, 9}, {4, 1, 1, 9}};
        for (int[] k : kinds) {
            LawnRings x = new LawnRings();
            x.lawn(8, 8);
            x.sprinkler(k[0], 27, k[1], k[2]);
            String name = "kind " + k[0] + ", reach " + k[1] + ", power " + k[2];
            due(name + ": of 0", x.of(0, 0), k[0]);
            due(name + ": of 1", x.of(0, 1), 27);
            due(name + ": of 2", x.of(0, 2), k[1]);
            due(name + ": of 3", x.of(0, 3), k[2]);
            due(name + ": of 4", x.of(0, 4), 0);
            due(name + ": of 5", x.of(0, 5), k[3]);
            x.rule(0, 3);
            x.turn(0, 1);
            due(name + ": of 4", x.of(0, 4), 1);
            due(name + ", in wind: of 5", x.of(0, 5), k[3]);
        }
        LawnRings x = new LawnRings();
        x.sprinkler(0, 0, 1, 3);
        x.sprinkler(2, 19, 4, 9);
        due("at an edge", x.of(0, 5), 9);
        due("at another", x.of(1, 5), 36);
        due("of(2, 0)", x.of(2, 0), BAD);
        due("of(-1, 0)", x.of(-1, 0), BAD);
        due("of(HIGH, 0)", x.of(HIGH, 0), BAD);
        due("of(0, -1)", x.of(0, -1), BAD);
        due("of(0, 6)", x.of(0, 6), BAD);
        due("of(0, LOW)", x.of(0, LOW), BAD);
    }

    private static void cellFallsAndTakes() {
        promise = "6";
        LawnRings x = new LawnRings();
        x.sprinkler(0, 7, 2, 5);
        cells(x, 2, 0, 0, 0, 0, 0);
        x.turn(0, 1);
        cells(x, 2, 3, 4, 4, 4, 3, 3, 4, 5, 4, 3, 3, 4, 4, 4, 3, 3, 3, 3, 3, 3);
        x.rule(0, 1);
        cells(x, 2, 0, 3, 4, 4, 4, 0, 3, 4, 5, 4, 0, 3, 4, 4, 4, 0, 3, 3, 3, 3);
        x.rule(0, 3);
        cells(x, 2, 0, 0, 0, 3, 4, 0, 0, 0, 3, 4);
        x.rule(0, 0);
        x.soil(2, 2);
        x.soil(7, 1);
        due("path takes 1", x.cell(2, 3), 1);
        due("clay takes 5", x.cell(7, 3), 5);
        due("what falls is as it was", x.cell(7, 2), 5);
        due("grass takes all", x.cell(12, 3), 4 + 3);
        due("nothing ran here", x.cell(17, 3), 3);
        due("clay that gets 4", x.soil(1, 1), 0);
        due("takes 4", x.cell(1, 3), 4);
        x.minutes(1);
        cells(x, 1, 3, 4, 1, 4, 3, 3, 4, 5, 4, 3, 3, 4, 7, 4, 3, 3, 3, 3, 3, 3);
        due("runoff", x.count(9), 0);
        due("cell(-1, 0)", x.cell(-1, 0), BAD);
        due("cell(20, 1)", x.cell(20, 1), BAD);
        due("cell(HIGH, 1)", x.cell(HIGH, 1), BAD);
        due("cell(0, -1)", x.cell(0, -1), BAD);
        due("cell(0, 5)", x.cell(0, 5), BAD);
        due("cell(LOW, LOW)", x.cell(LOW, LOW), BAD);
    }

    private static void cellWrong() {
        promise = "6";
        LawnRings x = new LawnRings();
        x.sprinkler(1, 7, 0, 1);
        x.turn(0, 1);
        x.minutes(9);
        due("9, least 10", x.cell(7, 4), 1);
        due("clay, too", x.soil(7, 1), 0);
        due("9, least 10", x.cell(7, 4), 1);
        due("path", x.soil(7, 2), 1);
        due("path bears 9", x.cell(7, 4), 0);
        x.minutes(1);
        due("path does not bear 10", x.cell(7, 4), 1);
        x.soil(7, 0);
        due("10, least 10", x.cell(7, 4), 0);
        x.minutes(10);
        due("20, most 20", x.cell(7, 4), 0);
        x.minutes(1);
        due("21, most 20", x.cell(7, 4), 1);
        x.rule(3, 21);
        due("21, most 21", x.cell(7, 4), 0);
        x.rule(2, 22);
        due("21, least 22", x.cell(7, 4), 1);
        x.soil(7, 2);
        x.sun(99);
        due("path is never too dry", x.cell(7, 4), 0);
    }

    private static void turn() {
        promise = "7";
        LawnRings x = new LawnRings();
        due("there is none", x.turn(0, 1), BAD);
        for (int i = 0; i < 5; i++) {
            x.sprinkler(0, i, 1, 1);
        }
        due("turn(0, 0)", x.turn(0, 0), NOT);
        due("turn(3, 1)", x.turn(3, 1), 1);
        due("turn(3, 1)", x.turn(3, 1), NOT);
        due("turn(1, 1)", x.turn(1, 1), 2);
        due("turn(0, 1)", x.turn(0, 1), FULL);
        due("turn(3, 1)", x.turn(3, 1), NOT);
        due("who is on", x.count(3), 10);
        due("turn(1, 2)", x.turn(1, 2), BAD);
        due("turn(1, -1)", x.turn(1, -1), BAD);
        due("turn(-1, 1)", x.turn(-1, 1), BAD);
        due("turn(5, 1)", x.turn(5, 1), BAD);
        due("turn(32, 1)", x.turn(32, 1), BAD);
        due("turn(HIGH, LOW)", x.turn(HIGH, LOW), BAD);
        due("turn(3, 0)", x.turn(3, 0), 1);
        due("turn(4, 1)", x.turn(4, 1), 2);
        x.rule(1, 5);
        due("turn(0, 1)", x.turn(0, 1), 3);
        due("turn(2, 1)", x.turn(2, 1), 4);
        due("turn(3, 1)", x.turn(3, 1), 5);
        x.rule(1, 1);
        due("all stay on", x.count(3), 31);
        due("turn(0, 0)", x.turn(0, 0), 4);
        due("turn(0, 1)", x.turn(0, 1), FULL);
        due("count(12)", x.count(12), 0);
    }

    private static void rule() {
        promise = "8";
        LawnRings x = new LawnRings();
        // the rule, its least, its most, what it is at first
        int[][] rules = {{0, 0, 3, 0}, {1, 1, 5, 2}, {2, 0, 999, 10}, {3, 0, 999, 20}};
        for (int[] r : rules) {
            due("least", x.rule(r[0], r[1]), r[3]);
            due("most", x.rule(r[0], r[2]), r[1]);
            due("below", x.rule(r[0], r[1] - 1), BAD);
            due("above", x.rule(r[0], r[2] + 1), BAD);
            due("far below", x.rule(r[0], LOW), BAD);
            due("far above", x.rule(r[0], HIGH), BAD);
            due("it stays", x.count(5 + r[0]), r[2]);
        }
        counts(x, 4, 5, 0, 0, 0, 3, 5, 999, 999, 0, 0, 20, 0);
        due("rule(-1, 1)", x.rule(-1, 1), BAD);
        due("rule(4, 1)", x.rule(4, 1), BAD);
        due("rule(HIGH, 1)", x.rule(HIGH, 1), BAD);
        due("least above most", x.rule(3, 0), 999);
    }

    private static void type() {
        promise = "9";
        LawnRings x = new LawnRings();
        int[] wrong = {31, 127, 0, -1, LOW, HIGH, 288};
        for (int letter : wrong) {
            due("type(" + letter + ")", x.type(letter), BAD);
        }
        due("type(32)", x.type(32), 1);
        due("type(126)", x.type(126), 2);
        for (int i = 3; i <= 110; i++) {
            due("type(103)", x.type(103), i);
        }
        due("one too many", x.type(103), FULL);
        due("a wrong one too many", x.type(31), BAD);
        due("the fault is at 1", x.garden(), -21);
        due("the tape is empty", x.type(103), 1);
    }

    private static void gardenFaults() {
        promise = "10";
        String row8 = "gggggggg";
        String eight = row8 + ("/" + row8).repeat(7);
        Object[][] faults = {
            {"", 0}, {" ", 1}, {"   ", 3}, {"x", 0}, {"G", 0}, {"/", 0}, {";", 0}, {"g", 1}, {"g/", 1}, {"g;", 1},
            {"gc", 2}, {"gc;", 2}, {"gc,", 2}, {"gc/", 3}, {"gc//", 3}, {"gc/g", 4}, {"gc/g/", 4}, {"gc/g;", 4},
            {"gc/gcp", 5}, {"gc/gc", 5}, {"gc/gc,", 5}, {"gc/gc;", 6}, {"gc/gc;;", 6}, {"gc/gc/;", 6},
            {"gc/gc;x", 6}, {"gc/gc;r", 7}, {"gc/gc;r2", 7}, {"gc/gc;r/", 7}, {"gc/gc;r1", 8}, {"gc/gc;r12", 8},
            {"gc/gc;r11", 9}, {"gc/gc;r115", 9}, {"gc/gc;r114", 10}, {"gc/gc;r1140", 10}, {"gc/gc;r114:", 10},
            {"gc/gc;r1149,", 12}, {"gc/gc;r1149;", 11}, {"gc/gc;r1149r", 11}, {"gc/gc;r1149/", 11},
            {"gc/gc;r1149,,", 12}, {"gc/gc;r1149,9", 12}, {"gc/gc;r0001,r0001,r0001,r0001,r0001,", 35},
            {"gc/gc;r0001,r0001,r0001,r0001,r0001,r0001", 35}, {"gc/gc;r0001,r0001,r0001,r0001,r0001x", 35},
            {row8 + "g", 8}, {row8 + "/" + row8 + "g", 17}, {eight + "/", 71}, {eight + "g", 71},
            {eight + ";r8", 73}, {eight + ";r78", 74}, {eight + ";r77", 75},
            {"gr0001", 1}, {"gcr0001", 2}, {"gc/gr0001", 4}, {"gc/gcr0001", 5}, {eight + "r0001", 71},
            {"gc/gc;0001", 6}, {"gc/gc;0", 6}, {"gc/gc;r001,r0001", 10},
            {" g c / g c ; x", 13}, {"g  x", 3}, {"gc/gc;r1149  x", 13}, {"gc/gc;r1149,  ", 14}, {"gc/gc; r 1 2", 11},
        };
        LawnRings x = new LawnRings();
        Due.garden(x, "gc/pg;w1034");
        x.turn(0, 1);
        x.minutes(2);
        for (Object[] f : faults) {
            due("garden of '" + f[0] + "'", Due.garden(x, (String) f[0]), -20 - (Integer) f[1]);
        }
        counts(x, 2, 2, 1, 1, 2, 0, 2, 10, 20, 6, 26, 3, 2);
        cells(x, 0, 0, 1, 2, 0);
        cells(x, 1, 8, 8, 2, 8);
    }

    private static void gardenStands() {
        promise = "10";
        LawnRings x = new LawnRings();
        x.rule(0, 1);
        x.rule(1, 5);
        x.rule(2, 3);
        x.rule(3, 4);
        x.seed(99);
        x.sprinkler(2, 0, 4, 9);
        x.soil(19, 2);
        x.turn(0, 1);
        x.minutes(9);
        due("garden", Due.garden(x, "gcp/pcg/cgp;r0001,e2111,q1229,d0035,w2142"), 9);
        counts(x, 3, 3, 5, 0, 0, 1, 5, 3, 4, 0, 0, 6, 0);
        cells(x, 0, 0, 1, 2, 2, 1, 0, 1, 0, 2);
        cells(x, 1, 0, 0, 0, 0, 0, 0, 0, 0, 0);
        int[][] sprinklers = {{0, 0, 0, 1}, {1, 7, 1, 1}, {2, 5, 2, 9}, {3, 0, 3, 5}, {4, 7, 4, 2}};
        for (int s = 0; s < 5; s++) {
            for (int what = 0; what < 4; what++) {
                due("of(" + s + ", " + what + ")", x.of(s, what), sprinklers[s][what]);
            }
            due("of(" + s + ", 4)", x.of(s, 4), 0);
        }
        due("undo()", x.undo(), NONE);
        due("seed(1)", x.seed(1), 99);
        due("the tape is empty", x.type(103), 1);
        x.garden();
        due("with blanks", Due.garden(x, "  g c/p  p ; r 0 1 2 3 ,w1149  "), 4);
        counts(x, 2, 2, 2);
        due("of(0, 3)", x.of(0, 3), 3);
        cells(x, 0, 0, 1, 2, 2);
        String row8 = "gcpgcpgc";
        due("the greatest", Due.garden(x, row8 + ("/" + row8).repeat(7)
            + ";r7749,r7749,r7749,r7749,w7749         "), 64);
        due("of(4, 1)", x.of(4, 1), 63);
        due("cell(63, 0)", x.cell(63, 0), 1);
    }

    private static void count() {
        promise = "11";
        LawnRings x = new LawnRings();
        due("garden", Due.garden(x, "pgg/pcg/ppg;e0119,r1125,d2001"), 9);
        x.rule(0, 1);
        x.rule(1, 3);
        x.rule(2, 5);
        x.rule(3, 6);
        x.turn(0, 1);
        x.turn(2, 1);
        x.minutes(2);
        x.sun(1);
        // by wind 1 falls in a minute: e 0 4 4, 0 4 4; d 0 2 0 in row 2; column 1 is grass, clay, path
        cells(x, 1, 0, 7, 7, 0, 7, 7, 0, 1, 0);
        counts(x, 3, 3, 3, 5, 2, 1, 3, 5, 6, 2, 29, 5, 3);
        due("count(-1)", x.count(-1), BAD);
        due("count(13)", x.count(13), BAD);
        due("count(LOW)", x.count(LOW), BAD);
        due("count(HIGH)", x.count(HIGH), BAD);
    }

    private static void minutes() {
        promise = "12";
        LawnRings x = new LawnRings();
        Due.garden(x, "ccc/gpc/ccg;q0019");
        x.turn(0, 1);
        due("minutes(0)", x.minutes(0), BAD);
        due("minutes(61)", x.minutes(61), BAD);
        due("minutes(LOW)", x.minutes(LOW), BAD);
        due("minutes(HIGH)", x.minutes(HIGH), BAD);
        due("count(4)", x.count(4), 0);
        // falls 36 32 0, 32 32 0, 0 0 0; 31 and 27 run off the clay above; 58 off the path, 53 off the last clay
        due("minutes(1)", x.minutes(1), 8);
        cells(x, 1, 5, 5, 0, 63, 1, 0, 0, 5, 0);
        counts(x, 3, 3, 1, 1, 1, 0, 2, 10, 20, 53, 79, 8, 1);
        due("minutes(2)", x.minutes(2), 5);
        cells(x, 1, 15, 15, 0, 189, 3, 0, 0, 15, 0);
        due("runoff", x.count(9), 159);
        due("minutes(60)", x.minutes(60), 9);
        cells(x, 1, 315, 315, 0, 3969, 63, 0, 0, 315, 0);
        due("the minute", x.count(4), 63);
        x.turn(0, 0);
        due("none is on", x.minutes(1), 9);
        due("nothing is wetter", x.count(10), 315 * 3 + 3969 + 63);
    }

    private static void minutesAtTheirMost() {
        promise = "12";
        LawnRings x = new LawnRings();
        x.sprinkler(2, 0, 0, 9);
        x.turn(0, 1);
        for (int i = 0; i < 166; i++) {
            x.minutes(60);
        }
        due("wet at most", x.cell(0, 1), 9999);
        due("grass takes all, so nothing runs off", x.count(9), 0);
        due("the minute", x.count(4), 9960);
        due("minutes(40)", x.minutes(40), FULL);
        due("drift(40)", x.drift(40), FULL);
        due("minutes(61)", x.minutes(61), BAD);
        due("drift(61)", x.drift(61), BAD);
        due("seed(1)", x.seed(1), 1);
        due("minutes(39)", x.minutes(39), 20);
        due("the minute", x.count(4), 9999);
        due("minutes(1)", x.minutes(1), FULL);
        due("drift(1)", x.drift(1), FULL);
        due("ahead(0, 99)", x.ahead(0, 99), 9999);
        due("the minute", x.count(4), 9999);
        x.undo();
        due("drift(1)", x.drift(1), 0);
        due("drift(1)", x.drift(1), FULL);
    }

    private static void runoffAtItsMost() {
        promise = "12";
        LawnRings x = new LawnRings();
        String row8 = "pppppppp";
        Due.garden(x, row8 + ("/" + row8).repeat(7) + ";q0049,q0049,q0049,q0049,q0049");
        x.rule(1, 5);
        for (int i = 0; i < 5; i++) {
            x.turn(i, 1);
        }
        // 620 is thrown by each; the 40 cells of 5 columns take 1 each
        x.minutes(60);
        due("runoff", x.count(9), 60 * (3100 - 40));
        for (int i = 0; i < 4; i++) {
            x.minutes(60);
        }
        due("runoff", x.count(9), 300 * 3060);
        x.minutes(26);
        due("runoff", x.count(9), 326 * 3060);
        x.minutes(1);
        due("runoff at its most", x.count(9), 999999);
        due("drift(60)", x.drift(60), 999999);
    }

    private static void sun() {
        promise = "13";
        LawnRings x = new LawnRings();
        due("on a dry lawn", x.sun(5), 0);
        x.sprinkler(0, 0, 1, 3);
        x.turn(0, 1);
        x.minutes(4);
        cells(x, 1, 12, 8, 0, 0, 0, 8, 8);
        due("sun(0)", x.sun(0), BAD);
        due("sun(100)", x.sun(100), BAD);
        due("sun(-1)", x.sun(-1), BAD);
        due("sun(LOW)", x.sun(LOW), BAD);
        due("sun(HIGH)", x.sun(HIGH), BAD);
        due("together", x.count(10), 36);
        due("sun(1)", x.sun(1), 32);
        due("sun(8)", x.sun(8), 3);
        cells(x, 1, 3, 0, 0, 0, 0, 0, 0);
        due("sun(99)", x.sun(99), 0);
        due("no minute", x.count(4), 4);
        due("may be undone", x.count(12), 7);
    }

    private static void move() {
        promise = "14";
        LawnRings x = new LawnRings();
        due("there is none", x.move(0, 0), BAD);
        x.sprinkler(3, 7, 0, 1);
        x.sprinkler(3, 8, 0, 1);
        due("move(1, 19)", x.move(1, 19), 8);
        due("move(1, 0)", x.move(1, 0), 19);
        due("to where it stands", x.move(1, 0), 0);
        due("where one stands", x.move(0, 0), 7);
        due("of(0, 1)", x.of(0, 1), 0);
        due("of(1, 1)", x.of(1, 1), 0);
        due("count(12)", x.count(12), 4);
        due("move(2, 0)", x.move(2, 0), BAD);
        due("move(-1, 0)", x.move(-1, 0), BAD);
        due("move(0, -1)", x.move(0, -1), BAD);
        due("move(0, 20)", x.move(0, 20), BAD);
        due("move(LOW, HIGH)", x.move(LOW, HIGH), BAD);
        due("count(12)", x.count(12), 4);
        x.turn(1, 1);
        x.move(1, 4);
        due("it is on still", x.count(3), 2);
        due("it throws there", x.cell(4, 2), 2);
        due("and no more here", x.cell(0, 2), 0);
    }

    private static void drift() {
        promise = "15";
        LawnRings x = new LawnRings();
        due("drift(0)", x.drift(0), BAD);
        due("drift(61)", x.drift(61), BAD);
        due("drift(LOW)", x.drift(LOW), BAD);
        due("drift(HIGH)", x.drift(HIGH), BAD);
        x.lawn(2, 8);
        x.sprinkler(3, 0, 0, 9);
        x.turn(0, 1);
        x.rule(0, 1);
        // the draws behind 1: 1103527590, 377401575, 662824084, 1147902781, 2035015474: winds 2 2 1 3 3
        due("drift(1)", x.drift(1), 0);
        cells(x, 1, 0, 0, 8, 0, 0, 0, 0, 0);
        due("the draw", x.seed(1103527590), 1103527590);
        due("drift(4)", x.drift(4), 0);
        cells(x, 1, 0, 8, 16, 16, 0, 0, 0, 0, 0);
        due("the draw", x.seed(2035015474), 2035015474);
        counts(x, 2, 8, 1, 1, 5, 1, 2, 10, 20, 0, 40, 14, 5);
        x.minutes(1);
        due("the wind is as it was", x.cell(1, 1), 16);
        due("minutes draw nothing", x.seed(0), 2035015474);
        x.drift(1);
        due("the draw behind 0", x.seed(1), 12345);
        due("wind 0", x.cell(0, 1), 8);
        x.soil(10, 2);
        x.soil(2, 1);
        due("runoff", x.drift(1), 2);
        due("runoff", x.drift(1), 4);
        due("drift(60)", x.drift(60) > 4 ? 1 : 0, 1);
    }

    private static void undo() {
        promise = "16";
        LawnRings x = new LawnRings();
        Due.garden(x, "pp/pp;d0009");
        x.turn(0, 1);
        x.minutes(10);
        counts(x, 2, 2, 1, 1, 10, 0, 2, 10, 20, 60, 20, 2, 8);
        for (int left = 7; left >= 0; left--) {
            due("undo()", x.undo(), left);
            counts(x, 2, 2, 1, 1, 2 + left, 0, 2, 10, 20, 12 + 6 * left, 4 + 2 * left, 0, left);
        }
        due("undo()", x.undo(), NONE);
        due("the minute", x.count(4), 2);
        x.minutes(3);
        due("undo()", x.undo(), 2);
        x.minutes(1);
        due("count(12)", x.count(12), 3);
        due("undo()", x.undo(), 2);
        due("the minute", x.count(4), 4);
    }

    private static void undoIsOfSteps() {
        promise = "16";
        LawnRings x = new LawnRings();
        x.sprinkler(3, 7, 0, 4);
        x.turn(0, 1);
        x.seed(50);
        x.minutes(3);
        x.sun(5);
        x.move(0, 2);
        x.seed(60);
        x.drift(2);
        due("count(12)", x.count(12), 7);
        x.seed(70);
        x.rule(0, 3);
        x.rule(3, 33);
        x.soil(7, 1);
        x.turn(0, 0);
        due("undo a minute of the drift", x.undo(), 6);
        due("the draw behind 60", x.seed(80), 60 * 1103515245 + 12345 & Integer.MAX_VALUE);
        due("undo the other one", x.undo(), 5);
        due("the draw", x.seed(90), 60);
        due("undo the move", x.undo(), 4);
        due("it stands there again", x.of(0, 1), 7);
        due("the draw ahead of the move", x.seed(91), 50);
        due("wet", x.cell(7, 1), 7);
        due("undo the sun", x.undo(), 3);
        due("wet", x.cell(7, 1), 12);
        due("undo a minute", x.undo(), 2);
        due("wet", x.cell(7, 1), 8);
        due("what was told stays", x.count(5), 3);
        due("what was told stays", x.count(8), 33);
        due("what was told stays", x.cell(7, 0), 1);
        due("what was told stays", x.of(0, 4), 0);
        due("the minute", x.count(4), 2);
    }

    private static void undoIsEmptied() {
        promise = "16";
        LawnRings x = new LawnRings();
        x.minutes(3);
        x.lawn(4, 5);
        due("a lawn leaves nothing", x.undo(), NONE);
        x.minutes(3);
        x.sprinkler(0, 0, 1, 1);
        due("a sprinkler leaves nothing", x.undo(), NONE);
        x.minutes(3);
        Due.garden(x, "gg/gg;r0001");
        due("a garden leaves nothing", x.undo(), NONE);
        x.minutes(3);
        Due.garden(x, "gg/gg;r0000");
        x.lawn(1, 1);
        x.sprinkler(0, 0, 0, 0);
        due("what is refused leaves all", x.undo(), 2);
    }

    private static void seed() {
        promise = "17";
        LawnRings x = new LawnRings();
        due("seed(-1)", x.seed(-1), BAD);
        due("seed(LOW)", x.seed(LOW), BAD);
        due("seed(0)", x.seed(0), 1);
        due("seed(HIGH)", x.seed(HIGH), 0);
        due("seed(7)", x.seed(7), HIGH);
        due("count(12)", x.count(12), 0);
        x.seed(HIGH);
        x.drift(1);
        due("the draw behind the highest", x.seed(0), -1103515245 + 12345 & HIGH);
    }

    private static void ahead() {
        promise = "18";
        LawnRings x = new LawnRings();
        Due.garden(x, "gcp/ggg;e0115,q0009");
        x.turn(0, 1);
        x.turn(1, 1);
        x.minutes(1);
        cells(x, 1, 38, 2, 1, 2, 2, 3);
        due("ahead(0, 0)", x.ahead(0, 0), 38);
        due("ahead(0, 1)", x.ahead(0, 1), 76);
        due("ahead(2, 99)", x.ahead(2, 99), 100);
        due("ahead(5, 99)", x.ahead(5, 99), 300);
        x.rule(0, 1);
        due("ahead(0, 9)", x.ahead(0, 9), 38);
        due("ahead(1, 9)", x.ahead(1, 9), 2 + 9 * 5);
        due("ahead(4, 9)", x.ahead(4, 9), 2 + 9 * (2 + 33));
        due("nothing is changed", x.count(10), 48);
        due("nothing is changed", x.count(4), 1);
        due("nothing is changed", x.count(12), 1);
        due("ahead(0, -1)", x.ahead(0, -1), BAD);
        due("ahead(0, 100)", x.ahead(0, 100), BAD);
        due("ahead(-1, 0)", x.ahead(-1, 0), BAD);
        due("ahead(6, 0)", x.ahead(6, 0), BAD);
        due("ahead(HIGH, LOW)", x.ahead(HIGH, LOW), BAD);
    }

    private static void wrongs() {
        promise = "19";
        LawnRings x = new LawnRings();
        Due.garden(x, "ggp/ccp;e0112");
        x.turn(0, 1);
        int[][] due = {{0, 4, 4}, {9, 4, 4}, {10, 2, 0}, {20, 2, 0}, {21, 6, 0}, {99, 6, 0}};
        for (int[] d : due) {
            due("wrongs(" + d[0] + ", 0)", x.wrongs(d[0], 0), d[1]);
            due("wrongs(" + d[0] + ", 1)", x.wrongs(d[0], 1), d[2]);
        }
        x.rule(0, 1);
        due("the first column stays dry", x.wrongs(10, 1), 2);
        due("the path gets too much", x.wrongs(10, 0), 4);
        due("nothing is changed", x.count(10), 0);
        due("wrongs(-1, 0)", x.wrongs(-1, 0), BAD);
        due("wrongs(100, 0)", x.wrongs(100, 0), BAD);
        due("wrongs(0, -1)", x.wrongs(0, -1), BAD);
        due("wrongs(0, 2)", x.wrongs(0, 2), BAD);
        due("wrongs(HIGH, LOW)", x.wrongs(HIGH, LOW), BAD);
    }

    private static void enough() {
        promise = "20";
        LawnRings x = new LawnRings();
        due("never", x.enough(), NONE);
        Due.garden(x, "gp/cp;e0002,e1002");
        x.rule(2, 99);
        x.turn(0, 1);
        due("one stays dry", x.enough(), NONE);
        x.turn(1, 1);
        due("at the last", x.enough(), 99);
        x.rule(2, 100);
        due("a minute too late", x.enough(), NONE);
        x.rule(2, 3);
        due("in 3", x.enough(), 3);
        x.rule(0, 1);
        due("not in the wind", x.enough(), NONE);
        x.rule(0, 0);
        due("nothing is changed", x.count(10), 0);
        x.minutes(2);
        due("in 1", x.enough(), 1);
        x.minutes(1);
        due("now", x.enough(), 0);
        Due.garden(x, "pp/pp;r0001");
        due("path needs nothing", x.enough(), 0);
    }

    private static void stand() {
        promise = "21";
        LawnRings x = new LawnRings();
        Due.garden(x, "pg/pg;d0001,d0001");
        x.rule(2, 1);
        x.rule(1, 1);
        due("in no minutes all are like", x.stand(0, 0, 0), 0);
        due("in no minutes all are like", x.stand(0, 0, 1), 2);
        due("the first of like ones", x.stand(0, 1, 0), 1);
        due("one stays dry", x.stand(0, 1, 1), 1);
        x.move(1, 1);
        x.turn(1, 1);
        due("the other is on", x.stand(0, 1, 0), 3);
        due("more than the tap gives for", x.stand(0, 1, 1), 0);
        due("itself on", x.stand(1, 1, 0), 1);
        due("and stands once", x.stand(1, 1, 1), 1);
        x.rule(0, 1);
        due("with the wind the other wets nothing", x.stand(0, 1, 0), 0);
        due("with the wind", x.stand(0, 1, 1), 1);
        due("too wet in 40, or lost", x.stand(1, 40, 0), 0);
        due("too wet in 40, or lost", x.stand(1, 40, 1), 2);
        due("it is where it was", x.of(1, 1), 1);
        due("who is on", x.count(3), 2);
        due("what may be undone", x.count(12), 1);
        int[][] wrong = {{-1, 0, 0}, {2, 0, 0}, {0, -1, 0}, {0, 41, 0}, {0, 0, -1}, {0, 0, 2}, {HIGH, LOW, HIGH}};
        for (int[] w : wrong) {
            due("a wrong stand", x.stand(w[0], w[1], w[2]), BAD);
        }
    }

    private static void set() {
        promise = "22";
        LawnRings x = new LawnRings();
        due("none to be on", x.set(40, 0), 0);
        due("none to be on", x.set(40, 1), 20);
        Due.garden(x, "gg/gp;d0001,d0101,d1001,e0012");
        x.rule(2, 1);
        x.rule(1, 1);
        due("in no minutes", x.set(0, 0), 0);
        due("in no minutes", x.set(0, 1), 3);
        due("one wets all", x.set(1, 0), 8);
        due("one wets all", x.set(1, 1), 0);
        x.rule(1, 3);
        due("fewer are better than a lesser set", x.set(1, 0), 8);
        Due.garden(x, "gg/gp;d0001,d0001,d0101,d1001");
        x.rule(1, 2);
        due("two of them", x.set(1, 0), 5);
        due("two of them", x.set(1, 1), 1);
        x.rule(1, 5);
        due("three of them", x.set(1, 0), 13);
        due("three of them", x.set(1, 1), 0);
        x.rule(1, 1);
        due("the least of like ones", x.set(1, 0), 1);
        x.turn(3, 1);
        due("who is on does not matter", x.set(1, 0), 1);
        due("and stays", x.count(3), 8);
        due("too wet in 40", x.set(40, 0), 0);
        due("too wet in 40", x.set(40, 1), 3);
        x.rule(0, 1);
        due("with the wind", x.set(1, 0), 1);
        due("with the wind", x.set(1, 1), 2);
        int[][] wrong = {{-1, 0}, {41, 0}, {0, -1}, {0, 2}, {LOW, 0}, {HIGH, HIGH}};
        for (int[] w : wrong) {
            due("a wrong set", x.set(w[0], w[1]), BAD);
        }
    }

    private static void turns() {
        promise = "23";
        LawnRings x = new LawnRings();
        due("none to be on", x.turns(1, NONE), 20);
        due("none to be on", x.turns(1, 0), BAD);
        Due.garden(x, "gp/pp;d0001,d0001");
        x.rule(2, 2);
        due("one is enough", x.turns(1, NONE), 0);
        due("rising by the first", x.turns(1, 0), 0);
        due("the last has it", x.turns(1, 1), 1);
        x.rule(2, 6);
        due("three", x.turns(1, NONE), 0);
        due("1 and then 2", x.turns(1, 0), 1);
        due("1 and then 2", x.turns(1, 1), 2);
        x.rule(2, 8);
        due("2 and 2", x.turns(1, 0), 2);
        due("2 and 2", x.turns(1, 1), 2);
        x.rule(2, 9);
        due("there is no way", x.turns(1, NONE), 1);
        due("the shortest is none", x.turns(1, 0), 0);
        due("the shortest is none", x.turns(1, 1), 0);
        due("of 3", x.turns(3, NONE), 0);
        due("of 3", x.turns(3, 1), 6);
        x.turn(0, 1);
        due("who is on does not matter", x.turns(3, 1), 6);
        due("nothing is changed", x.count(10), 0);
        due("of 20 too wet", x.turns(20, NONE), 1);
        x.rule(0, 1);
        due("in the wind there is no way", x.turns(3, NONE), 1);
        turnsOfFive();
        int[][] wrong = {{0, NONE}, {21, NONE}, {1, -1}, {1, 2}, {1, -3}, {1, -5}, {LOW, HIGH}};
        for (int[] w : wrong) {
            due("wrong turns", x.turns(w[0], w[1]), BAD);
        }
    }

    private static void turnsOfFive() {
        LawnRings x = new LawnRings();
        Due.garden(x, "gg/gg;d0001,d0101,d1001,d1101,e0011");
        x.rule(3, 16);
        x.turn(4, 1);
        x.minutes(6);
        x.turn(0, 1);
        x.minutes(1);
        x.turn(4, 0);
        x.minutes(1);
        cells(x, 1, 11, 7, 7, 7);
        // LEAST, how many are wrong, how long each: of 14 the last three can't be, so 1 and 1 for the first (2 and 0 is later)
        int[][] ways = {{12, 0, 0, 2, 2, 2, 1}, {13, 0, 0, 2, 2, 2, 2}, {14, 3, 1, 0, 0, 0, 1}};
        for (int[] way : ways) {
            x.rule(2, way[0]);
            due("of five, least " + way[0], x.turns(1, NONE), way[1]);
            for (int i = 0; i < 5; i++) {
                due("of five, least " + way[0] + ": " + i, x.turns(1, i), way[2 + i]);
            }
        }
        due("nothing is changed", x.count(10), 32);
    }

    private static void image() {
        promise = "24";
        LawnRings x = new LawnRings();
        due("image()", x.image(), 1);
        x.lawn(8, 8);
        due("image()", x.image(), 1);
        x.lawn(2, 2);
        x.restore();
        due("the latest image", x.count(0), 8);
        x.minutes(2);
        due("an image is no step", x.image(), 1);
        due("count(12)", x.count(12), 2);
    }

    private static void restore() {
        promise = "25";
        LawnRings x = new LawnRings();
        due("restore()", x.restore(), NONE);
        Due.garden(x, "gcp/pcg;r0124,e1023");
        x.turn(1, 1);
        x.minutes(2);
        x.sun(1);
        x.seed(40);
        x.rule(0, 1);
        x.rule(1, 4);
        x.rule(2, 1);
        x.rule(3, 7);
        x.type(103);
        x.sheet(0, 0, 3);
        int[] want = new int[13];
        for (int i = 0; i < 13; i++) {
            want[i] = x.count(i);
        }
        x.image();
        Due.garden(x, "g/");
        x.lawn(8, 8);
        x.rule(0, 2);
        x.rule(1, 1);
        x.rule(2, 2);
        x.rule(3, 3);
        x.seed(1);
        x.sprinkler(4, 60, 4, 9);
        x.turn(0, 1);
        x.drift(20);
        x.sheet(0, 3, 7);
        x.type(103);
        x.type(103);
        for (int time = 0; time < 2; time++) {
            due("restore()", x.restore(), 1);
            counts(x, want);
            cells(x, 0, 0, 1, 2, 2, 1, 0);
            cells(x, 1, 1, 1, 1, 1, 1, 1);
            due("of(0, 0)", x.of(0, 0), 0);
            due("of(1, 1)", x.of(1, 1), 3);
            due("the draw", x.seed(2), 40);
            due("undo()", x.undo(), 2);
            due("undone", x.cell(1, 1), 2);
            due("undo()", x.undo(), 1);
            due("undone", x.cell(1, 1), 1);
            x.sprinkler(0, 1, 0, 1);
            x.minutes(12);
        }
        due("the tape is as it is now", x.type(103), 3);
        due("sheets are as they are now", x.drop(0), 7);
        restoreKnowsAllSteps();
    }

    private static void restoreKnowsAllSteps() {
        LawnRings x = new LawnRings();
        Due.garden(x, "pp/pp;d0009,d0003");
        x.turn(0, 1);
        x.minutes(6);
        x.move(1, 2);
        x.minutes(4);
        x.image();
        due("runoff", x.count(9), 60);
        x.move(1, 3);
        x.sun(9);
        x.drift(60);
        x.restore();
        due("runoff", x.count(9), 60);
        for (int left = 7; left >= 0; left--) {
            due("undo()", x.undo(), left);
            int minute = left > 3 ? left + 2 : left + 3;
            due("the minute", x.count(4), minute);
            due("wet", x.count(10), 2 * minute);
            due("runoff", x.count(9), 6 * minute);
            due("where one stands", x.of(1, 1), left > 3 ? 2 : 0);
        }
        due("undo()", x.undo(), NONE);
    }

    private static void put(LawnRings x, int sheet, int lane, long... items) {
        x.sheet(sheet, lane, items.length);
        for (int i = 0; i < items.length; i++) {
            x.item(sheet, lane, i, items[i]);
        }
    }

    private static void tins() {
        promise = "26";
        LawnRings x = new LawnRings();
        Due.garden(x, "gg/cp;d0001,d0002,d0101,e1013");
        x.rule(1, 1);
        x.turn(2, 1);
        x.minutes(3);
        put(x, 0, 2, 0, 2, 1, 0);
        due("2 in a minute", x.tins(0, 2, 0, 1, 1, 0), 4);
        due("the least", x.tins(0, 2, 0, 1, 1, 1), 1);
        due("another dry", x.tins(0, 2, 0, 2, 1, 0), 2);
        put(x, 0, 2, 0, 4, 1, 0);
        due("both", x.tins(0, 2, 0, 2, 1, 0), 1);
        due("both", x.tins(0, 2, 0, 2, 1, 1), 3);
        put(x, 1, 3, 99, 0, 5, 1, 15);
        due("from item 1 on", x.tins(1, 3, 1, 2, 5, 0), 1);
        due("from item 1 on", x.tins(1, 3, 1, 2, 5, 1), 12);
        put(x, 1, 0, 2, 20);
        due("in 20", x.tins(1, 0, 0, 1, 20, 0), 8);
        due("in 20", x.tins(1, 0, 0, 1, 20, 1), 8);
        put(x, 1, 1, 2, 3, 2, 4);
        due("one cell, two tins that differ", x.tins(1, 1, 0, 2, 3, 0), 0);
        due("one cell, two tins that differ", x.tins(1, 1, 0, 2, 3, 1), NONE);
        put(x, 1, 1, 0, 0, 1, 0, 2, 0, 3, 0, 0, 0, 1, 0, 2, 0, 3, 0);
        due("all dry", x.tins(1, 1, 0, 8, 3, 0), 1);
        due("all dry", x.tins(1, 1, 0, 8, 3, 1), 0);
        put(x, 1, 2, 0, 9999);
        due("so much is no fault", x.tins(1, 2, 0, 1, 1, 0), 0);
        due("nothing is changed", x.count(3), 4);
        due("nothing is changed", x.count(4), 3);
        x.rule(0, 1);
        put(x, 1, 2, 1, 2);
        due("with the wind", x.tins(1, 2, 0, 1, 1, 0), 4);
    }

    private static void tinsRefused() {
        promise = "26";
        LawnRings x = new LawnRings();
        put(x, 0, 2, 0, 0, 19, 9999, 20, 0, 0, 10000, -1, 0, 0, -1);
        due("none is there to be on", x.tins(0, 2, 0, 1, 1, 0), 1);
        due("none is there to be on", x.tins(0, 2, 0, 1, 1, 1), 0);
        due("no set", x.tins(0, 2, 0, 2, 1, 1), NONE);
        for (int i = 4; i <= 10; i += 2) {
            due("an item is wrong", x.tins(0, 2, i, 1, 1, 0), NOT);
        }
        due("a later item is wrong", x.tins(0, 2, 0, 3, 1, 1), NOT);
        put(x, 3, 2, 0, 0, 1, 10000);
        due("a later item is wrong", x.tins(3, 2, 0, 2, 1, 1), NOT);
        put(x, 3, 2, 0, 0, 1, -1);
        due("a later item is wrong", x.tins(3, 2, 0, 2, 1, 1), NOT);
        put(x, 3, 2, 0, 0, 1, 9999);
        due("a later item is as told", x.tins(3, 2, 0, 2, 1, 0), 0);
        x.drop(3);
        int[][] bad = {{-1, 2, 0, 1, 1, 0}, {4, 2, 0, 1, 1, 0}, {0, -1, 0, 1, 1, 0}, {0, 4, 0, 1, 1, 0},
            {0, 2, 0, 0, 1, 0}, {0, 2, 0, 9, 1, 0}, {0, 2, 0, 1, 0, 0}, {0, 2, 0, 1, 21, 0}, {0, 2, 0, 1, 1, -1},
            {0, 2, 0, 1, 1, 2}, {1, 2, 0, 0, 1, 0}, {0, 1, 0, 9, 1, 0}, {0, 2, 99, 1, 0, 0}, {1, 1, -1, 1, 1, 2},
            {0, 2, 0, HIGH, 1, 0}, {0, 2, 0, LOW, 1, 0}};
        for (int[] b : bad) {
            due("bad tins", x.tins(b[0], b[1], b[2], b[3], b[4], b[5]), BAD);
        }
        due("null", x.tins(1, 2, -1, 1, 1, 0), NULL);
        due("cast", x.tins(0, 3, -1, 1, 1, 0), CAST);
        due("index", x.tins(0, 2, -1, 1, 1, 0), INDEX);
        due("index", x.tins(0, 2, 11, 1, 1, 0), INDEX);
        due("index", x.tins(0, 2, 10, 2, 1, 0), INDEX);
        due("index ahead of a wrong item", x.tins(0, 2, 4, 5, 1, 0), INDEX);
        due("index", x.tins(0, 2, HIGH, 8, 1, 0), INDEX);
        due("index", x.tins(0, 2, LOW, 8, 1, 0), INDEX);
        x.sheet(2, 3, 2);
        x.item(2, 3, 0, 1L << 32);
        due("a long is not cut", x.tins(2, 3, 0, 1, 1, 0), NOT);
        x.item(2, 3, 0, 0);
        x.item(2, 3, 1, 1L << 32);
        due("a long is not cut", x.tins(2, 3, 0, 1, 1, 0), NOT);
    }

    /** Whether item i of a sheet is v (0 to 20); the item ahead of it is made 0: a cell on which an EVEN of 1 stands. */
    private static void holds(LawnRings x, int sheet, int lane, int i, int v) {
        x.item(sheet, lane, i - 1, 0);
        due("item " + i + " is " + v, x.tins(sheet, lane, i - 1, 1, v == 0 ? 1 : v, 1), v == 0 ? 0 : 1);
    }

    private static void film() {
        promise = "27";
        LawnRings x = new LawnRings();
        Due.garden(x, "gggg/gggg;e0001,r0034");
        x.turn(1, 1);
        x.minutes(2);
        cells(x, 1, 8, 6, 4, 2, 6, 6, 4, 2);
        x.sheet(0, 1, 10);
        due("film(0, 8, 0, 1, 1)", x.film(0, 8, 0, 1, 1), 8);
        int[] wet = {8, 6, 4, 2, 6, 6, 4, 2, 0};
        x.move(1, 7);
        x.turn(1, 0);
        x.lawn(2, 2);
        x.sprinkler(1, 0, 0, 1);
        for (int i = 1; i <= 9; i++) {
            holds(x, 0, 1, i, wet[i - 1]);
        }
        x.lawn(4, 6);
        x.sheet(3, 2, 24);
        due("24 cells", x.film(0, 24, 3, 2, 0), 24);
        due("the last cell", x.film(23, 1, 3, 2, 23), 1);
        int[][] bad = {{-1, 1, 0, 1, 0}, {24, 1, 0, 1, 0}, {0, 0, 0, 1, 0}, {0, 25, 0, 1, 0}, {1, 24, 0, 1, 0},
            {23, 2, 0, 1, 0}, {0, 1, -1, 1, 0}, {0, 1, 4, 1, 0}, {0, 1, 0, -1, 0}, {0, 1, 0, 4, 0},
            {23, 2, 1, 1, 0}, {23, 2, 0, 3, 0}, {23, 2, 0, 1, 99}, {HIGH, HIGH, 0, 1, 0}, {0, LOW, 0, 1, 0}};
        for (int[] b : bad) {
            due("bad film", x.film(b[0], b[1], b[2], b[3], b[4]), BAD);
        }
        due("null", x.film(0, 1, 1, 1, -1), NULL);
        due("cast", x.film(0, 1, 0, 2, -1), CAST);
        due("index", x.film(0, 1, 0, 1, -1), INDEX);
        due("index", x.film(0, 1, 0, 1, 10), INDEX);
        due("index", x.film(0, 2, 0, 1, 9), INDEX);
        due("index", x.film(0, 24, 0, 1, HIGH), INDEX);
        due("index", x.film(0, 24, 0, 1, LOW), INDEX);
        due("the last item", x.film(0, 1, 0, 1, 9), 1);
        put(x, 2, 2, 9, 9, 9, 9);
        x.film(0, 2, 2, 2, 1);
        x.sprinkler(1, 0, 0, 1);
        int[] around = {9, 0, 0, 9};
        x.copy(2, 0, 3, 0, 4);
        x.copy(2, 0, 3, 5, 4);
        for (int i = 0; i < 4; i++) {
            holds(x, 3, 2, 5 + i, around[i]);
        }
    }

    private static void filmCuts() {
        promise = "27";
        LawnRings x = new LawnRings();
        Due.garden(x, "gg/gg;e0001,q0107");
        x.turn(1, 1);
        x.minutes(19);
        x.sun(13);
        due("wet", x.cell(1, 1), 519);
        for (int lane = 0; lane < 4; lane++) {
            x.sheet(0, lane, 2);
            due("film", x.film(1, 1, 0, lane, 1), 1);
            // 519 is 7 by its lowest eight bits
            due("as it is in lane " + lane, x.tins(0, lane, 0, 1, 7, 0), lane == 0 ? 2 : 0);
        }
    }

    private static void sheet() {
        promise = "28";
        LawnRings x = new LawnRings();
        for (int lane = 0; lane < 4; lane++) {
            due("sheet(" + lane + ", " + lane + ", 24)", x.sheet(lane, lane, 24), 24);
        }
        due("sheet(0, 0, 0)", x.sheet(0, 0, 0), 0);
        due("no item", x.item(0, 0, 0, 0), INDEX);
        int[][] bad = {{-1, 0, 0}, {4, 0, 0}, {0, -1, 0}, {0, 4, 0}, {0, 0, 25}, {-1, 0, -1}, {0, 4, -1},
            {0, 0, HIGH}, {LOW, HIGH, LOW}};
        for (int[] b : bad) {
            due("a bad sheet", x.sheet(b[0], b[1], b[2]), BAD);
        }
        due("sheet(3, 0, -1)", x.sheet(3, 0, -1), SIZE);
        due("sheet(3, 0, LOW)", x.sheet(3, 0, LOW), SIZE);
        due("it stays", x.drop(3), 24);
        x.item(1, 1, 1, 9);
        due("a new row", x.sheet(1, 1, 2), 2);
        due("its items are 0", x.tins(1, 1, 0, 1, 1, 0), 1);
        due("another lane", x.sheet(1, 2, 2), 2);
        due("another lane", x.item(1, 1, 0, 0), CAST);
    }

    private static void drop() {
        promise = "29";
        LawnRings x = new LawnRings();
        due("drop(-1)", x.drop(-1), BAD);
        due("drop(4)", x.drop(4), BAD);
        due("drop(HIGH)", x.drop(HIGH), BAD);
        due("drop(LOW)", x.drop(LOW), BAD);
        due("drop(3)", x.drop(3), NULL);
        x.sheet(3, 1, 7);
        x.sheet(0, 1, 0);
        due("drop(3)", x.drop(3), 7);
        due("drop(3)", x.drop(3), NULL);
        due("drop(0)", x.drop(0), 0);
        due("drop(0)", x.drop(0), NULL);
        due("item", x.item(3, 1, 0, 0), NULL);
    }

    private static void item() {
        promise = "30";
        LawnRings x = new LawnRings();
        for (int lane = 0; lane < 4; lane++) {
            x.sheet(lane, lane, 2);
            due("the last item", x.item(lane, lane, 1, 0), 1);
            int[][] bad = {{-1, lane, 0}, {4, lane, 0}, {lane, -1, 0}, {lane, 4, 0}, {lane, HIGH, HIGH}};
            for (int[] b : bad) {
                due("a bad item", x.item(b[0], b[1], b[2], 1), BAD);
            }
            due("cast", x.item(lane, (lane + 1) % 4, -1, 1), CAST);
            due("index", x.item(lane, lane, -1, 1), INDEX);
            due("index", x.item(lane, lane, 2, 1), INDEX);
            due("index", x.item(lane, lane, HIGH, 1), INDEX);
            due("index", x.item(lane, lane, LOW, 1), INDEX);
        }
        due("drop", x.drop(2), 2);
        due("null", x.item(2, 0, -1, 1), NULL);
        x.sheet(2, 2, 2);
        int[] bits = {8, 16, 32};
        for (int lane = 0; lane < 3; lane++) {
            long above = 1L << bits[lane];
            x.item(lane, lane, 0, above * 5 + 3);
            x.item(lane, lane, 1, above);
            due("the lowest bits", x.tins(lane, lane, 0, 1, 1, 0), 1);
            x.item(lane, lane, 1, above - 1);
            due("below 0", x.tins(lane, lane, 0, 1, 1, 0), NOT);
            x.item(lane, lane, 1, above / 2);
            due("below 0", x.tins(lane, lane, 0, 1, 1, 0), NOT);
            x.item(lane, lane, 1, above + 9);
            due("9", x.tins(lane, lane, 0, 1, 1, 0), 0);
        }
        x.item(3, 3, 0, 3);
        x.item(3, 3, 1, Long.MIN_VALUE);
        due("all bits", x.tins(3, 3, 0, 1, 1, 0), NOT);
    }

    private static void copy() {
        promise = "31";
        LawnRings x = new LawnRings();
        Due.garden(x, "gg/gg;e0001");
        put(x, 0, 0, 1, 2, 3, 4, 5);
        put(x, 1, 0, 6, 7, 8);
        due("to another", x.copy(0, 1, 1, 0, 3), 3);
        int[] there = {2, 3, 4};
        for (int i = 1; i <= 2; i++) {
            holds(x, 1, 0, i, there[i]);
        }
        due("onward in itself", x.copy(0, 0, 0, 1, 4), 4);
        int[] onward = {1, 1, 2, 3, 4};
        for (int i = 1; i <= 4; i++) {
            holds(x, 0, 0, i, onward[i]);
        }
        put(x, 0, 3, 1, 2, 3, 4, 5);
        due("back in itself", x.copy(0, 1, 0, 0, 4), 4);
        int[] back = {2, 3, 4, 5, 5};
        for (int i = 1; i <= 4; i++) {
            holds(x, 0, 3, i, back[i]);
        }
        due("nothing, at the end", x.copy(0, 5, 0, 5, 0), 0);
        due("all, onto itself", x.copy(0, 0, 0, 0, 5), 5);
    }

    private static void copyRefused() {
        promise = "31";
        LawnRings x = new LawnRings();
        x.sheet(0, 2, 5);
        x.sheet(1, 2, 3);
        x.sheet(2, 1, 3);
        int[][] bad = {{-1, 0}, {4, 0}, {0, -1}, {0, 4}, {3, 4}, {4, 3}, {LOW, HIGH}};
        for (int[] b : bad) {
            due("a bad copy", x.copy(b[0], -1, b[1], -1, -1), BAD);
        }
        due("from nothing", x.copy(3, -1, 0, 0, 1), NULL);
        due("to nothing", x.copy(0, -1, 3, 0, 1), NULL);
        due("nothing to nothing", x.copy(3, 0, 3, 0, 0), NULL);
        due("unlike lanes", x.copy(0, -1, 2, 0, 1), CAST);
        due("unlike lanes, no items", x.copy(0, 0, 2, 0, 0), CAST);
        int[][] index = {{-1, 0, 1}, {0, -1, 1}, {0, 0, -1}, {0, 0, 4}, {3, 0, 3}, {5, 0, 1}, {0, 3, 1}, {6, 0, 0},
            {0, 4, 0}, {HIGH, 0, 1}, {0, HIGH, HIGH}, {LOW, 0, HIGH}, {0, LOW, LOW}, {1, 1, HIGH}, {1, 1, LOW}};
        for (int[] i : index) {
            due("copy(0, " + i[0] + ", 1, " + i[1] + ", " + i[2] + ")", x.copy(0, i[0], 1, i[1], i[2]), INDEX);
        }
        due("just so", x.copy(0, 2, 1, 0, 3), 3);
    }
}
