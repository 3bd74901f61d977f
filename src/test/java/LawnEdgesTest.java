/** The edges that Terms 1 and promises 1 to 8 and 11 name: the lawn, cells, sprinklers, rules, a minute, what is wrong. */
public final class LawnEdgesTest {
    private static void edge(String sentence, String run) {
        Edges.edge(sentence, run);
    }

    public static void main(String[] args) {
        lawn();
        cells();
        rules();
        sprinklers();
        tap();
        throwing();
        kindsBelowRing();
        wind();
        minute();
        mostWet();
        mostRunoff();
        sun();
        wrong();
        promises();
        Due.end();
    }

    private static void lawn() {
        edge("THE LAWN has ROWS (2 .. 8)", """
            lawn(2, 5) = 10
            cell(9, 0) = 0
            cell(10, 0) = BAD
            lawn(8, 5) = 40
            cell(39, 0) = 0
            cell(40, 0) = BAD
            lawn(1, 5) = BAD
            lawn(9, 5) = BAD
            lawn(0, 5) = BAD
            lawn(-2, 5) = BAD
            lawn(LOW, 5) = BAD
            lawn(HIGH, 5) = BAD
            count(0) = 8
            """);
        edge("COLUMNS (2 .. 8 ..)", """
            lawn(4, 2) = 8
            cell(7, 0) = 0
            cell(8, 0) = BAD
            lawn(4, 8) = 32
            cell(31, 0) = 0
            cell(32, 0) = BAD
            lawn(4, 1) = BAD
            lawn(4, 9) = BAD
            lawn(4, 0) = BAD
            lawn(4, -2) = BAD
            lawn(4, LOW) = BAD
            lawn(4, HIGH) = BAD
            count(1) = 8
            """);
        edge("both at their least, and at their most", """
            lawn(2, 2) = 4
            cell(3, 0) = 0
            cell(4, 0) = BAD
            lawn(8, 8) = 64
            cell(63, 0) = 0
            cell(64, 0) = BAD
            lawn(1, 9) = BAD
            lawn(9, 1) = BAD
            """);
        edge("4 and 5 at first", """
            count(0) = 4
            count(1) = 5
            cell(19, 0) = 0
            cell(20, 0) = BAD
            """);
        edge("CELLS, numbered along ROWS from 0 on, the highest ROW first", """
            lawn(2, 3) = 6
            cell(-1, 0) = BAD
            cell(0, 0) = 0
            cell(5, 0) = 0
            cell(6, 0) = BAD
            soil(2, 2) = 0
            sprinkler(3, 2, 0, 9) = 0
            turn(0, 1) = 1
            cells(2) = 0 0 8 0 0 0
            cells(3) = 0 0 1 0 0 7
            """);
    }

    private static void cells() {
        edge("A CELL is GRASS (0, at first), CLAY (1) or PATH (2)", """
            cells(0) = 0 0 0 0 0 0 0 0 0 0 0 0 0 0 0 0 0 0 0 0
            soil(0, 0) = 0
            soil(0, 2) = 0
            soil(0, 3) = BAD
            soil(0, -1) = BAD
            soil(0, LOW) = BAD
            soil(0, HIGH) = BAD
            cell(0, 0) = 2
            soil(0, 1) = 2
            soil(0, 0) = 1
            cell(0, 0) = 0
            """);
        edge("soil: a CELL .. BAD", """
            soil(0, 1) = 0
            soil(19, 1) = 0
            soil(-1, 1) = BAD
            soil(20, 1) = BAD
            soil(LOW, 1) = BAD
            soil(HIGH, 1) = BAD
            cells(0) = 1 0 0 0 0 0 0 0 0 0 0 0 0 0 0 0 0 0 0 1
            """);
        edge("it is WET by .. (0 at first); it is MINUTE 0 at first", """
            cells(1) = 0 0 0 0 0 0 0 0 0 0 0 0 0 0 0 0 0 0 0 0
            count(4) = 0
            count(9) = 0
            count(10) = 0
            """);
    }

    private static void rules() {
        edge("WIND is 0 .. 3 (0 at first)", """
            count(5) = 0
            rule(0, 3) = 0
            rule(0, 4) = BAD
            rule(0, HIGH) = BAD
            count(5) = 3
            rule(0, 0) = 3
            rule(0, -1) = BAD
            rule(0, LOW) = BAD
            count(5) = 0
            """);
        edge("TAP 1 .. 5 (2 at first)", """
            count(6) = 2
            rule(1, 5) = 2
            rule(1, 6) = BAD
            rule(1, HIGH) = BAD
            count(6) = 5
            rule(1, 1) = 5
            rule(1, 0) = BAD
            rule(1, LOW) = BAD
            count(6) = 1
            """);
        edge("LEAST 0 .. 999 (10)", """
            count(7) = 10
            rule(2, 999) = 10
            rule(2, 1000) = BAD
            rule(2, HIGH) = BAD
            count(7) = 999
            rule(2, 0) = 999
            rule(2, -1) = BAD
            rule(2, LOW) = BAD
            count(7) = 0
            """);
        edge("MOST 0 .. 999 (20)", """
            count(8) = 20
            rule(3, 999) = 20
            rule(3, 1000) = BAD
            rule(3, HIGH) = BAD
            count(8) = 999
            rule(3, 0) = 999
            rule(3, -1) = BAD
            rule(3, LOW) = BAD
            count(8) = 0
            """);
        edge("LEAST may be above MOST", """
            rule(3, 9) = 20
            rule(2, 10) = 10
            count(7) = 10
            count(8) = 9
            """);
        edge("rule: 0 .. 3; BAD", """
            rule(-1, 1) = BAD
            rule(4, 1) = BAD
            rule(LOW, 1) = BAD
            rule(HIGH, 1) = BAD
            counts() = 4 5 0 0 0 0 2 10 20 0 0 20 0
            """);
    }

    private static void sprinklers() {
        edge("SPRINKLERS 0 .. 4, as they come; FULL: 5", """
            count(2) = 0
            of(0, 0) = BAD
            sprinkler(4, 0, 0, 1) = 0
            of(0, 0) = 4
            of(1, 0) = BAD
            sprinkler(3, 1, 0, 1) = 1
            sprinkler(2, 2, 0, 1) = 2
            sprinkler(1, 3, 0, 1) = 3
            of(4, 0) = BAD
            sprinkler(0, 4, 0, 1) = 4
            of(4, 0) = 0
            of(5, 0) = BAD
            of(-1, 0) = BAD
            of(LOW, 0) = BAD
            of(HIGH, 0) = BAD
            count(2) = 5
            sprinkler(0, 4, 0, 1) = FULL
            count(2) = 5
            of(5, 0) = BAD
            """);
        edge("are of a KIND (0 .. 4)", """
            sprinkler(-1, 0, 0, 1) = BAD
            sprinkler(5, 0, 0, 1) = BAD
            sprinkler(LOW, 0, 0, 1) = BAD
            sprinkler(HIGH, 0, 0, 1) = BAD
            count(2) = 0
            sprinkler(0, 0, 0, 1) = 0
            sprinkler(4, 0, 0, 1) = 1
            of(0, 0) = 0
            of(1, 0) = 4
            """);
        edge("stand on a CELL", """
            sprinkler(0, -1, 0, 1) = BAD
            sprinkler(0, 20, 0, 1) = BAD
            sprinkler(0, LOW, 0, 1) = BAD
            sprinkler(0, HIGH, 0, 1) = BAD
            count(2) = 0
            sprinkler(0, 0, 0, 1) = 0
            sprinkler(0, 19, 0, 1) = 1
            of(0, 1) = 0
            of(1, 1) = 19
            """);
        edge("have a REACH (0 .. 4)", """
            sprinkler(0, 0, -1, 1) = BAD
            sprinkler(0, 0, 5, 1) = BAD
            sprinkler(0, 0, LOW, 1) = BAD
            sprinkler(0, 0, HIGH, 1) = BAD
            count(2) = 0
            sprinkler(0, 0, 0, 1) = 0
            sprinkler(0, 0, 4, 1) = 1
            of(0, 2) = 0
            of(1, 2) = 4
            """);
        edge("a POWER (1 .. 9)", """
            sprinkler(0, 0, 0, 0) = BAD
            sprinkler(0, 0, 0, 10) = BAD
            sprinkler(0, 0, 0, LOW) = BAD
            sprinkler(0, 0, 0, HIGH) = BAD
            count(2) = 0
            sprinkler(0, 0, 0, 1) = 0
            sprinkler(0, 0, 0, 9) = 1
            of(0, 3) = 1
            of(1, 3) = 9
            """);
        edge("are ON or not (not at first)", """
            sprinkler(0, 0, 4, 9) = 0
            sprinkler(0, 0, 4, 9) = 1
            of(0, 4) = 0
            count(3) = 0
            cells(2) = 0 0 0 0 0 0 0 0 0 0 0 0 0 0 0 0 0 0 0 0
            turn(0, 1) = 1
            of(0, 4) = 1
            sprinkler(0, 0, 4, 9) = 2
            of(2, 4) = 0
            of(0, 4) = 1
            count(3) = 1
            """);
    }

    private static void tap() {
        edge("no more than TAP may be turned ON: 1", """
            text("gg/gg;r0001,r0001,r0001,r0001,r0001") = 4
            rule(1, 1) = 2
            turn(4, 1) = 1
            turn(0, 1) = FULL
            count(3) = 16
            turn(4, 0) = 0
            turn(0, 1) = 1
            count(3) = 1
            """);
        edge("no more than TAP may be turned ON: 2 at first", """
            text("gg/gg;r0001,r0001,r0001,r0001,r0001") = 4
            turn(4, 1) = 1
            turn(0, 1) = 2
            turn(2, 1) = FULL
            count(3) = 17
            """);
        edge("no more than TAP may be turned ON: 4, 5; sets are bits", """
            text("gg/gg;r0001,r0001,r0001,r0001,r0001") = 4
            rule(1, 4) = 2
            turn(0, 1) = 1
            turn(1, 1) = 2
            turn(2, 1) = 3
            turn(3, 1) = 4
            turn(4, 1) = FULL
            count(3) = 15
            rule(1, 5) = 4
            turn(4, 1) = 5
            count(3) = 31
            """);
        edge("rule: those that are ON stay so", """
            text("gg/gg;r0001,r0001,r0001") = 4
            turn(0, 1) = 1
            turn(1, 1) = 2
            rule(1, 1) = 2
            count(3) = 3
            turn(2, 1) = FULL
            turn(0, 0) = 1
            turn(2, 1) = FULL
            turn(0, 1) = FULL
            turn(1, 0) = 0
            turn(2, 1) = 1
            """);
        edge("turn: BAD; NOT: it is so", """
            turn(0, 1) = BAD
            turn(0, 0) = BAD
            sprinkler(0, 0, 0, 1) = 0
            turn(0, 0) = NOT
            turn(0, 1) = 1
            turn(0, 1) = NOT
            turn(0, 2) = BAD
            turn(0, -1) = BAD
            turn(0, LOW) = BAD
            turn(0, HIGH) = BAD
            turn(1, 1) = BAD
            turn(-1, 1) = BAD
            turn(32, 0) = BAD
            turn(LOW, 1) = BAD
            turn(HIGH, 1) = BAD
            count(3) = 1
            """);
    }

    private static void throwing() {
        edge("FAR: how many ROWS, or COLUMNS, a CELL is away, the greater number", """
            lawn(5, 6) = 30
            sprinkler(0, 14, 2, 9) = 0
            turn(0, 1) = 1
            cells(2) = 7 7 7 7 7 0  7 8 8 8 7 0  7 8 9 8 7 0  7 8 8 8 7 0  7 7 7 7 7 0
            """);
        edge("on a CELL no FARTHER than REACH: 0, 1, 4, in COLUMNS", """
            text("gggggggg/gggggggg;e0002,e0012,e0042") = 16
            turn(0, 1) = 1
            cells(2) = 1 0 0 0 0 0 0 0  0 0 0 0 0 0 0 0
            turn(0, 0) = 0
            turn(1, 1) = 1
            cells(2) = 1 1 0 0 0 0 0 0  1 1 0 0 0 0 0 0
            turn(1, 0) = 0
            turn(2, 1) = 1
            cells(2) = 1 1 1 1 1 0 0 0  1 1 1 1 1 0 0 0
            of(0, 5) = 1
            of(1, 5) = 4
            of(2, 5) = 10
            """);
        edge("on a CELL no FARTHER than REACH: 4, in ROWS", """
            lawn(8, 2) = 16
            sprinkler(1, 15, 4, 2) = 0
            turn(0, 1) = 1
            cells(2) = 0 0 0 0 0 0 1 1 1 1 1 1 1 1 1 1
            """);
        edge("0 RING: POWER less how FAR (0 at least)", """
            text("gggggggg/gggggggg;r0043,e0041") = 16
            turn(0, 1) = 1
            cells(2) = 3 2 1 0 0 0 0 0  2 2 1 0 0 0 0 0
            of(0, 5) = 11
            turn(1, 1) = 2
            cells(2) = 4 3 2 1 1 0 0 0  3 3 2 1 1 0 0 0 // what is 0 at least takes nothing from others
            """);
        edge("0 RING at its least: POWER 1", """
            text("gggg/gggg;r0041") = 8
            turn(0, 1) = 1
            cells(2) = 1 0 0 0  0 0 0 0
            of(0, 5) = 1
            """);
        edge("1 EVEN: a half of POWER, 1 at least; what is divided is cut", """
            text("gg/gg;e0001,e0002,e0003,e0004,e0009") = 4
            of(0, 5) = 1
            of(1, 5) = 1
            of(2, 5) = 1
            of(3, 5) = 2
            of(4, 5) = 4
            """);
        edge("1 EVEN: however FAR", """
            text("ggggg/ggggg;e0049") = 10
            turn(0, 1) = 1
            cells(2) = 4 4 4 4 4 4 4 4 4 4
            """);
    }

    private static void kindsBelowRing() {
        edge("2 QUARTER (below RING): four times as much, but nothing on CELLS of a lesser ROW, of a lesser COLUMN", """
            text("ggg/ggg/ggg;q1142,q1141") = 9
            turn(0, 1) = 1
            cells(2) = 0 0 0  0 8 4  0 4 4
            of(0, 5) = 20
            turn(0, 0) = 0
            turn(1, 1) = 1
            cells(2) = 0 0 0  0 4 0  0 0 0
            """);
        edge("2 QUARTER: its own ROW, its own COLUMN up to REACH", """
            text("ggggg/ggggg/ggggg/ggggg;q1129") = 20
            turn(0, 1) = 1
            cells(2) = 0 0 0 0 0  0 36 32 28 0  0 32 32 28 0  0 28 28 28 0
            """);
        edge("2 QUARTER in the last CELL", """
            text("gg/gg;q1149") = 4
            turn(0, 1) = 1
            cells(2) = 0 0 0 36
            """);
        edge("3 DRIPPER (below EVEN): twice EVEN, on its own CELL alone", """
            text("ggg/ggg;d0101,d0102,d0143,d0149") = 6
            of(0, 5) = 2
            of(1, 5) = 2
            of(2, 5) = 2
            of(3, 5) = 8
            turn(3, 1) = 1
            cells(2) = 0 8 0  0 0 0
            turn(0, 1) = 2
            cells(2) = 0 10 0  0 0 0
            """);
        edge("4 WIDE (below RING): as RING, as if half as FAR", """
            text("gggggggg/gggggggg;w0043,w0041,w0019") = 16
            turn(0, 1) = 1
            cells(2) = 3 3 2 2 1 0 0 0  3 3 2 2 1 0 0 0 // 5 COLUMNS away is beyond REACH, though half of it is not
            turn(0, 0) = 0
            turn(1, 1) = 1
            cells(2) = 1 1 0 0 0 0 0 0  1 1 0 0 0 0 0 0
            turn(1, 0) = 0
            turn(2, 1) = 1
            cells(2) = 9 9 0 0 0 0 0 0  9 9 0 0 0 0 0 0
            """);
    }

    private static void wind() {
        edge("What is thrown on a CELL falls WIND COLUMNS further on in its ROW (beyond the last one it is lost)", """
            text("gggg/gggg;d0101") = 8
            turn(0, 1) = 1
            cells(2) = 0 2 0 0  0 0 0 0
            rule(0, 1) = 0
            cells(2) = 0 0 2 0  0 0 0 0
            rule(0, 2) = 1
            cells(2) = 0 0 0 2  0 0 0 0
            rule(0, 3) = 2
            cells(2) = 0 0 0 0  0 0 0 0
            of(0, 5) = 2
            minutes(1) = 8
            count(10) = 0
            count(9) = 0
            """);
        edge("beyond the last one it is lost: as many COLUMNS as there are, and more", """
            text("pp/pp;q0049") = 4
            turn(0, 1) = 1
            rule(0, 1) = 0
            cells(2) = 0 36 0 32
            rule(0, 2) = 1
            cells(2) = 0 0 0 0
            rule(0, 3) = 2
            cells(2) = 0 0 0 0
            minutes(60) = 0
            count(9) = 0
            of(0, 5) = 132
            """);
        edge("what a CELL takes, what runs off it, by WIND", """
            text("gpp/gcp;d0008") = 6
            turn(0, 1) = 1
            cells(3) = 8 0 0  0 0 0
            rule(0, 1) = 0
            cells(3) = 0 1 0  0 5 0
            rule(0, 2) = 1
            cells(3) = 0 0 1  0 0 1
            rule(0, 3) = 2
            cells(3) = 0 0 0  0 0 0
            rule(0, 1) = 3
            minutes(1)
            count(9) = 2
            rule(0, 2) = 1
            minutes(1)
            count(9) = 8
            """);
        edge("what falls lies behind REACH by WIND", """
            text("gggggggg/gggggggg;e0042") = 16
            turn(0, 1) = 1
            rule(0, 3) = 0
            cells(2) = 0 0 0 1 1 1 1 1  0 0 0 1 1 1 1 1
            """);
    }

    private static void minute() {
        edge("GRASS all", """
            text("gg/gg;q0009,q0009,q0009,q0009,q0009") = 4
            rule(1, 5)
            turn(0, 1)
            turn(1, 1)
            turn(2, 1)
            turn(3, 1)
            turn(4, 1) = 5
            cell(0, 2) = 180
            cell(0, 3) = 180
            cell(2, 3) = 0
            """);
        edge("CLAY 5 at most", """
            text("cg/gg;r0004,r0005,r0006") = 4
            cells(3) = 0 0 0 0
            turn(0, 1) = 1
            cells(3) = 4 0 0 0
            turn(0, 0) = 0
            turn(1, 1) = 1
            cells(3) = 5 0 0 0
            turn(1, 0) = 0
            turn(2, 1) = 1
            cells(3) = 5 0 1 0
            minutes(1) = 4
            cells(1) = 5 0 1 0
            """);
        edge("PATH 1 at most", """
            text("pg/gg;r0001,r0002") = 4
            cells(3) = 0 0 0 0
            turn(0, 1) = 1
            cells(3) = 1 0 0 0
            turn(0, 0) = 0
            turn(1, 1) = 1
            cells(3) = 1 0 1 0
            minutes(1) = 3
            cells(1) = 1 0 1 0
            """);
        edge("what ran off the CELL above it in this MINUTE: ROW by ROW down to the last", """
            text("pg/cg/pg/cg/pg/cg/pg/pg;q0008") = 16
            turn(0, 1) = 1
            cells(3) = 1 0  5 0  1 0  5 0  1 0  5 0  1 0  1 0
            minutes(1) = 11
            count(9) = 12
            """);
        edge("below the last ROW it is lost: RUNOFF is so much more; 0 at first", """
            count(9) = 0
            text("gg/pp;r1001,r1002,r1109") = 4
            turn(0, 1) = 1
            minutes(1)
            count(9) = 0
            turn(0, 0) = 0
            turn(1, 1) = 1
            minutes(1)
            count(9) = 1
            turn(2, 1) = 2
            minutes(1)
            count(9) = 10
            """);
        edge("It is the next MINUTE", """
            minutes(1) = 20
            count(4) = 1
            minutes(60) = 20
            count(4) = 61
            drift(60) = 0
            count(4) = 121
            """);
    }

    private static void mostWet() {
        edge("WET by 0 .. 9999: GRASS", """
            sprinkler(2, 0, 0, 9) = 0
            turn(0, 1) = 1
            minutes(60) x 4
            minutes(37)
            cell(0, 1) = 9972
            ahead(0, 1) = 9999
            minutes(1) = 20
            cell(0, 1) = 9999
            minutes(1) = 20
            cell(0, 1) = 9999
            ahead(0, 0) = 9999
            ahead(0, 99) = 9999
            count(10) = 9999
            sun(1) = 9998
            minutes(1) = 20
            cell(0, 1) = 9999
            """);
        edge("WET by 0 .. 9999: CLAY", """
            soil(0, 1) = 0
            sprinkler(0, 0, 0, 5) = 0
            turn(0, 1) = 1
            minutes(60) x 33
            minutes(19)
            cell(0, 1) = 9995
            minutes(1)
            cell(0, 1) = 9999
            minutes(1)
            cell(0, 1) = 9999
            """);
        edge("WET by 0 .. 9999: PATH, to the last MINUTE", """
            soil(0, 2) = 0
            sprinkler(0, 0, 0, 1) = 0
            turn(0, 1) = 1
            minutes(60) x 166
            minutes(38)
            cell(0, 1) = 9998
            minutes(1)
            cell(0, 1) = 9999
            ahead(0, 1) = 9999
            count(4) = 9999
            """);
        edge("WET by 0 .. 9999: by a DRIFT, too", """
            sprinkler(2, 0, 4, 9) = 0
            turn(0, 1) = 1
            drift(60) x 40
            cell(4, 1) = 9999
            drift(1) = 0
            cell(4, 1) = 9999
            """);
    }

    private static void mostRunoff() {
        // in a minute 5 quarters throw 3100, of which 40 cells take 1 each
        edge("RUNOFF .. 999999 at most", """
            text("pppppppp/pppppppp/pppppppp/pppppppp/pppppppp/pppppppp/pppppppp/pppppppp;q0049,q0049,q0049,q0049,q0049")
            rule(1, 5)
            turn(0, 1)
            turn(1, 1)
            turn(2, 1)
            turn(3, 1)
            turn(4, 1) = 5
            minutes(60) x 5
            minutes(26)
            count(9) = 997560
            minutes(1)
            count(9) = 999999
            minutes(1)
            count(9) = 999999
            undo() = 7
            count(9) = 999999
            undo() = 6
            count(9) = 997560
            drift(1) = 999999
            drift(60) = 999999
            """);
        edge("RUNOFF just at its most is not cut", """
            text("pppppppp/pppppppp/pppppppp/pppppppp/pppppppp/pppppppp/pppppppp/pppppppp;q0049,q0049,q0049,q0049,r7402")
            rule(1, 5)
            turn(0, 1)
            turn(1, 1)
            turn(2, 1)
            turn(3, 1) = 4
            minutes(60) x 6
            minutes(49)
            count(9) = 997960 // 409 times 2480 - 40
            turn(1, 0)
            turn(2, 0)
            turn(3, 0) = 1
            minutes(3)
            count(9) = 999700 // 3 times 620 - 40
            turn(0, 0)
            turn(4, 1) = 1
            minutes(60) x 4
            count(9) = 999940 // 1 of 2 runs off
            minutes(58)
            count(9) = 999998
            minutes(1)
            count(9) = 999999
            minutes(1)
            count(9) = 999999
            """);
    }

    private static void sun() {
        edge("SUN by n: each CELL is WET by n less (0 at least)", """
            text("ggg/ggg;r0014") = 6
            turn(0, 1) = 1
            minutes(1)
            cells(1) = 4 3 0  3 3 0
            sun(2) = 5
            cells(1) = 2 1 0  1 1 0
            sun(1) = 1
            cells(1) = 1 0 0  0 0 0
            sun(1) = 0
            sun(1) = 0
            cells(1) = 0 0 0  0 0 0
            """);
        edge("SUN by n (1 .. 99)", """
            sprinkler(0, 0, 0, 9) = 0
            turn(0, 1) = 1
            minutes(12)
            sun(0) = BAD
            sun(100) = BAD
            sun(-1) = BAD
            sun(LOW) = BAD
            sun(HIGH) = BAD
            count(10) = 108
            sun(1) = 107
            sun(99) = 8
            sun(99) = 0
            """);
    }

    private static void wrong() {
        edge("WRONG are CELLS of GRASS, CLAY that are WET by less than LEAST", """
            text("gc/pp;e0002,e0102") = 4
            turn(0, 1)
            turn(1, 1)
            minutes(9) = 2
            cells(4) = 1 1 0 0
            minutes(1) = 0
            cells(4) = 0 0 0 0
            rule(2, 11) = 10
            cells(4) = 1 1 0 0
            rule(2, 0) = 11
            sun(99) = 0
            cells(4) = 0 0 0 0 // none is WET by less than 0
            rule(2, 1) = 0
            cells(4) = 1 1 0 0
            """);
        edge("by more than MOST", """
            text("gc/pp;e0002,e0102") = 4
            turn(0, 1)
            turn(1, 1)
            rule(2, 0) = 10
            minutes(20) = 0
            cells(4) = 0 0 0 0
            minutes(1) = 2
            cells(4) = 1 1 0 0
            rule(3, 21) = 20
            cells(4) = 0 0 0 0
            rule(3, 0) = 21
            cells(4) = 1 1 0 0
            sun(20)
            cells(4) = 1 1 0 0
            sun(1)
            cells(4) = 0 0 0 0
            """);
        edge("CELLS of PATH that are WET by more than 9", """
            text("pp/gg;e0002") = 4
            turn(0, 1)
            minutes(9) = 2
            cells(4) = 0 0 1 1
            minutes(1) = 3
            cells(4) = 1 0 1 1
            rule(3, 999) = 20
            rule(2, 0) = 10
            cells(4) = 1 0 0 0 // LEAST, MOST are nothing to PATH
            rule(3, 0) = 999
            sun(1)
            cells(4) = 0 0 0 0
            rule(2, 999) = 0
            cells(4) = 0 0 1 1
            """);
        edge("LEAST and MOST at their most", """
            sprinkler(0, 0, 0, 9) = 0
            turn(0, 1)
            rule(2, 999)
            rule(3, 999)
            minutes(60)
            minutes(50)
            cell(0, 1) = 990
            cell(0, 4) = 1
            minutes(1)
            cell(0, 1) = 999
            cell(0, 4) = 0
            minutes(1)
            cell(0, 4) = 1
            sun(10)
            cell(0, 1) = 998
            cell(0, 4) = 1
            """);
        edge("LEAST above MOST: what is just both is WRONG once", """
            sprinkler(0, 0, 0, 5) = 0
            turn(0, 1)
            rule(2, 6)
            rule(3, 4)
            minutes(1) = 20
            cell(0, 1) = 5
            cell(0, 4) = 1
            count(11) = 20
            """);
    }

    private static void promises() {
        edge("Promise 1: A lawn of grass, no SPRINKLERS", """
            counts() = 4 5 0 0 0 0 2 10 20 0 0 20 0
            cells(0) = 0 0 0 0 0 0 0 0 0 0 0 0 0 0 0 0 0 0 0 0
            undo() = NONE
            restore() = NONE
            seed(1) = 1
            type(32) = 1
            drop(0) = NULL
            drop(1) = NULL
            drop(2) = NULL
            drop(3) = NULL
            """);
        edge("Promise 2: nothing WET, no SPRINKLERS, no RUNOFF, MINUTE 0, of GRASS", """
            text("pp/pp;q0049") = 4
            turn(0, 1)
            minutes(9)
            lawn(2, 2) = 4
            counts() = 2 2 0 0 0 0 2 10 20 0 0 4 0
            cells(0) = 0 0 0 0
            cells(1) = 0 0 0 0
            cells(2) = 0 0 0 0
            of(0, 0) = BAD
            turn(0, 1) = BAD
            sprinkler(0, 0, 0, 1) = 0
            of(0, 4) = 0
            """);
        edge("Promise 2: a greater LAWN behind a lesser one has nothing of an older one", """
            lawn(8, 8) = 64
            sprinkler(1, 63, 4, 9) = 0
            turn(0, 1)
            minutes(2)
            soil(63, 2) = 0
            lawn(2, 2) = 4
            lawn(8, 8) = 64
            count(10) = 0
            cell(63, 0) = 0
            cell(63, 1) = 0
            """);
        edge("Promise 2: what it does not name stays: rules, THE DRAW, THE TAPE, the IMAGE, SHEETS", """
            rule(0, 3)
            rule(1, 5)
            rule(2, 7)
            rule(3, 8)
            seed(HIGH)
            minutes(2)
            image() = 1
            typed("gg/gg;") = 6
            sheet(0, 1, 3)
            sheet(3, 3, 24)
            lawn(2, 3) = 6
            counts() = 2 3 0 0 0 3 5 7 8 0 0 6 0
            seed(HIGH) = HIGH
            drop(0) = 3
            drop(3) = 24
            typed("r0001") = 11
            garden() = 4
            restore() = 1
            counts() = 4 5 0 0 2 3 5 7 8 0 0 20 2
            """);
        edge("Promise 5: 0 .. 5; BAD", """
            sprinkler(2, 7, 1, 2) = 0
            of(0, 0) = 2
            of(0, 1) = 7
            of(0, 2) = 1
            of(0, 3) = 2
            of(0, 4) = 0
            of(0, 5) = 20
            of(0, -1) = BAD
            of(0, 6) = BAD
            of(0, LOW) = BAD
            of(0, HIGH) = BAD
            of(1, 6) = BAD
            """);
        edge("Promise 5: how much it throws, if it is ON (lost or not)", """
            sprinkler(0, 0, 1, 5) = 0
            of(0, 5) = 17
            turn(0, 1)
            of(0, 5) = 17
            rule(0, 3)
            of(0, 5) = 17
            move(0, 19) = 0
            of(0, 5) = 17
            move(0, 7) = 19
            of(0, 5) = 37
            """);
        edge("Promise 6: 0 .. 4; BAD", """
            cell(0, 0) = 0
            cell(19, 4) = 1
            cell(0, -1) = BAD
            cell(0, 5) = BAD
            cell(0, LOW) = BAD
            cell(0, HIGH) = BAD
            cell(-1, 0) = BAD
            cell(20, 4) = BAD
            cell(LOW, 2) = BAD
            cell(HIGH, 3) = BAD
            """);
        edge("Promise 11: 0 .. 12; BAD", """
            count(0) = 4
            count(12) = 0
            count(-1) = BAD
            count(13) = BAD
            count(LOW) = BAD
            count(HIGH) = BAD
            """);
    }
}
