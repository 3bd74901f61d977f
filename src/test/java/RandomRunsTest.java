import java.util.Random;

/** Runs of random calls, right and wrong, on the class and on PlainLawn: all answers, and all that can be seen, are alike. */
public final class RandomRunsTest {
    private static final int RUNS = 400, CALLS = 300;
    private static final int[] FAR = {Integer.MIN_VALUE, Integer.MAX_VALUE, -1, 64, 1 << 30, -1 << 30, 100, 10000};

    private final Random random;
    private final LawnRings x = new LawnRings();
    private final PlainLawn p = new PlainLawn();
    private final int run;
    private String said = "";

    private RandomRunsTest(int run) {
        this.run = run;
        random = new Random(run);
    }

    public static void main(String[] args) {
        int runs = args.length > 0 ? Integer.parseInt(args[0]) : RUNS;
        for (int run = 0; run < runs && Due.wrongSoFar() == 0; run++) {
            new RandomRunsTest(run).go();
        }
        Due.end();
    }

    private void due(long got, long want) {
        Due.due("run " + run + ": " + said, got, want);
    }

    /** From least to most; at times just beside, or far away. */
    private int any(int least, int most) {
        int luck = random.nextInt(60);
        if (luck == 0) {
            return FAR[random.nextInt(FAR.length)];
        }
        if (luck == 1) {
            return least - 1;
        }
        if (luck == 2) {
            return most + 1;
        }
        return least + random.nextInt(Math.max(1, most - least + 1));
    }

    private int anyCell() {
        return any(0, x.count(0) * x.count(1) - 1);
    }

    private int anySprinkler() {
        return any(0, Math.max(0, x.count(2) - 1));
    }

    private void go() {
        boolean dear = run % 4 == 0;
        if (run % 3 > 0) {
            garden(text());
        }
        for (int i = 0; i < CALLS && Due.wrongSoFar() == 0; i++) {
            int luck = random.nextInt(100);
            if (luck < 25) {
                told();
            } else if (luck < 55) {
                done();
            } else if (luck < 75) {
                foretold(dear);
            } else {
                sheets();
            }
            looksAlike();
        }
    }

    private void told() {
        int luck = random.nextInt(40);
        if (luck == 0) {
            int a = any(2, 8), b = any(2, 8);
            said = "lawn(" + a + ", " + b + ")";
            due(x.lawn(a, b), p.lawn(a, b));
        } else if (luck < 4) {
            garden(random.nextInt(3) == 0 ? text() : spoiled(text()));
        } else if (luck < 12) {
            int a = anyCell(), b = any(0, 2);
            said = "soil(" + a + ", " + b + ")";
            due(x.soil(a, b), p.soil(a, b));
        } else if (luck < 17) {
            int a = any(0, 4), b = anyCell(), c = any(0, 4), d = any(1, 9);
            said = "sprinkler(" + a + ", " + b + ", " + c + ", " + d + ")";
            due(x.sprinkler(a, b, c, d), p.sprinkler(a, b, c, d));
        } else if (luck < 30) {
            int a = anySprinkler(), b = any(0, 1);
            said = "turn(" + a + ", " + b + ")";
            due(x.turn(a, b), p.turn(a, b));
        } else if (luck < 38) {
            int a = any(0, 3);
            int b = a == 0 ? any(0, 3) : a == 1 ? any(1, 5) : random.nextInt(4) == 0 ? any(0, 999) : any(0, 60);
            said = "rule(" + a + ", " + b + ")";
            due(x.rule(a, b), p.rule(a, b));
        } else {
            int a = any(32, 126);
            said = "type(" + a + ")";
            due(x.type(a), p.type(a));
        }
    }

    private void done() {
        int luck = random.nextInt(20);
        if (luck < 5) {
            int n = random.nextInt(3) == 0 ? any(1, 60) : any(1, 5);
            said = "minutes(" + n + ")";
            due(x.minutes(n), p.minutes(n));
        } else if (luck < 8) {
            int n = random.nextInt(3) == 0 ? any(1, 99) : any(1, 9);
            said = "sun(" + n + ")";
            due(x.sun(n), p.sun(n));
        } else if (luck < 11) {
            int a = anySprinkler(), b = anyCell();
            said = "move(" + a + ", " + b + ")";
            due(x.move(a, b), p.move(a, b));
        } else if (luck < 14) {
            int n = random.nextInt(3) == 0 ? any(1, 60) : any(1, 5);
            said = "drift(" + n + ")";
            due(x.drift(n), p.drift(n));
        } else if (luck < 17) {
            said = "undo()";
            due(x.undo(), p.undo());
        } else if (luck < 18) {
            int v = random.nextInt();
            said = "seed(" + v + ")";
            due(x.seed(v), p.seed(v));
        } else if (luck < 19) {
            said = "image()";
            due(x.image(), p.image());
        } else {
            said = "restore()";
            due(x.restore(), p.restore());
        }
    }

    private void foretold(boolean dear) {
        int luck = random.nextInt(dear ? 16 : 9);
        if (luck < 3) {
            int a = anyCell(), n = any(0, 99);
            said = "ahead(" + a + ", " + n + ")";
            due(x.ahead(a, n), p.ahead(a, n));
        } else if (luck < 6) {
            int n = any(0, 99), b = any(0, 1);
            said = "wrongs(" + n + ", " + b + ")";
            due(x.wrongs(n, b), p.wrongs(n, b));
        } else if (luck < 9) {
            said = "enough()";
            due(x.enough(), p.enough());
        } else if (luck < 12) {
            int a = anySprinkler(), n = random.nextInt(2) == 0 ? any(0, 40) : any(0, 6), b = any(0, 1);
            said = "stand(" + a + ", " + n + ", " + b + ")";
            due(x.stand(a, n, b), p.stand(a, n, b));
        } else if (luck < 15) {
            int n = random.nextInt(2) == 0 ? any(0, 40) : any(0, 6), b = any(0, 1);
            said = "set(" + n + ", " + b + ")";
            due(x.set(n, b), p.set(n, b));
        } else {
            int m = random.nextInt(3) == 0 ? any(1, 20) : any(1, 3);
            int s = random.nextInt(3) == 0 ? -4 : anySprinkler();
            said = "turns(" + m + ", " + s + ")";
            due(x.turns(m, s), p.turns(m, s));
        }
    }

    private void sheets() {
        int luck = random.nextInt(20);
        int s = any(0, 3);
        // one lane for each sheet, most of the time, so that not all is refused
        int lane = random.nextInt(8) == 0 ? any(0, 3) : s & 3;
        if (luck < 3) {
            int n = any(0, 24);
            said = "sheet(" + s + ", " + lane + ", " + n + ")";
            due(x.sheet(s, lane, n), p.sheet(s, lane, n));
        } else if (luck < 4) {
            said = "drop(" + s + ")";
            due(x.drop(s), p.drop(s));
        } else if (luck < 9) {
            int i = any(0, 20);
            long v = random.nextInt(4) == 0 ? random.nextLong() : random.nextInt(12);
            said = "item(" + s + ", " + lane + ", " + i + ", " + v + ")";
            due(x.item(s, lane, i, v), p.item(s, lane, i, v));
        } else if (luck < 11) {
            int c = anyCell(), n = any(1, 24), i = any(0, 6);
            said = "film(" + c + ", " + n + ", " + s + ", " + lane + ", " + i + ")";
            due(x.film(c, n, s, lane, i), p.film(c, n, s, lane, i));
        } else if (luck < 14) {
            int to = random.nextInt(2) == 0 ? s : any(0, 3), i = any(0, 12), j = any(0, 12), n = any(0, 12);
            said = "copy(" + s + ", " + i + ", " + to + ", " + j + ", " + n + ")";
            due(x.copy(s, i, to, j, n), p.copy(s, i, to, j, n));
        } else {
            if (random.nextInt(2) == 0 && s >= 0 && s < 4) {
                tellTins(s, s);
            }
            tins(s, lane, random.nextInt(3) == 0 ? any(0, 22) : 0, random.nextInt(2) == 0 ? any(1, 8) : 1);
        }
    }

    /** Puts out tins that may well be so: how much wetter some cells are in a few minutes with who is on. */
    private void tellTins(int s, int lane) {
        int n = 1 + random.nextInt(4);
        int m = 1 + random.nextInt(6);
        int cells = x.count(0) * x.count(1);
        x.sheet(s, lane, 2 * n);
        p.sheet(s, lane, 2 * n);
        for (int k = 0; k < n; k++) {
            int cell = random.nextInt(cells);
            int wetter = p.ahead(cell, m) - p.cell(cell, 1);
            said = "item of tins";
            due(x.item(s, lane, 2 * k, cell), p.item(s, lane, 2 * k, cell));
            due(x.item(s, lane, 2 * k + 1, wetter), p.item(s, lane, 2 * k + 1, wetter));
        }
        for (int what = 0; what < 2; what++) {
            said = "tins(" + s + ", " + lane + ", 0, " + n + ", " + m + ", " + what + ") as told";
            due(x.tins(s, lane, 0, n, m, what), p.tins(s, lane, 0, n, m, what));
        }
    }

    private void tins(int s, int lane, int i, int n) {
        int m = any(1, 20), what = any(0, 1);
        said = "tins(" + s + ", " + lane + ", " + i + ", " + n + ", " + m + ", " + what + ")";
        due(x.tins(s, lane, i, n, m, what), p.tins(s, lane, i, n, m, what));
    }

    private String text() {
        int rows = 2 + random.nextInt(7), columns = 2 + random.nextInt(7);
        StringBuilder b = new StringBuilder();
        String soils = random.nextBoolean() ? "gggcp" : "gcp";
        for (int r = 0; r < rows; r++) {
            b.append(r == 0 ? "" : "/");
            for (int c = 0; c < columns; c++) {
                b.append(soils.charAt(random.nextInt(soils.length())));
            }
        }
        int many = 1 + random.nextInt(5);
        for (int s = 0; s < many; s++) {
            b.append(s == 0 ? ";" : ",").append("reqdw".charAt(random.nextInt(5)));
            b.append(random.nextInt(rows)).append(random.nextInt(columns));
            b.append(random.nextInt(5)).append(1 + random.nextInt(9));
        }
        return b.toString();
    }

    private String spoiled(String text) {
        StringBuilder b = new StringBuilder(text);
        String letters = "gcpreqdw/;,0123456789 x";
        for (int i = random.nextInt(4); i > 0; i--) {
            b.insert(random.nextInt(b.length() + 1), ' ');
        }
        for (int i = random.nextInt(3); i > 0; i--) {
            int at = random.nextInt(b.length());
            char letter = letters.charAt(random.nextInt(letters.length()));
            int luck = random.nextInt(3);
            if (luck == 0) {
                b.setCharAt(at, letter);
            } else if (luck == 1) {
                b.insert(at, letter);
            } else if (b.length() > 1) {
                b.deleteCharAt(at);
            }
        }
        if (random.nextInt(5) == 0) {
            b.setLength(random.nextInt(b.length()));
        }
        return b.toString();
    }

    private void garden(String text) {
        for (int i = 0; i < text.length(); i++) {
            said = "type of '" + text + "'";
            due(x.type(text.charAt(i)), p.type(text.charAt(i)));
        }
        said = "garden of '" + text + "'";
        due(x.garden(), p.garden());
    }

    private void looksAlike() {
        String last = said;
        for (int i = -1; i <= 13; i++) {
            said = last + ", then count(" + i + ")";
            due(x.count(i), p.count(i));
        }
        int cells = p.count(0) * p.count(1);
        int what = random.nextInt(5);
        for (int c = 0; c < cells; c++) {
            said = last + ", then cell(" + c + ", " + what + ")";
            due(x.cell(c, what), p.cell(c, what));
            due(x.cell(c, 1), p.cell(c, 1));
        }
        for (int s = 0; s < p.count(2); s++) {
            for (int w = 0; w < 6; w++) {
                said = last + ", then of(" + s + ", " + w + ")";
                due(x.of(s, w), p.of(s, w));
            }
        }
        said = last + ", then seed";
        int draw = p.seed(0);
        due(x.seed(draw), draw);
        p.seed(draw);
        said = last;
    }
}
