/**
 * The edges of sheets and of tins (Terms 3, promises 26 to 31), and which of several answers below 0 is given. What an item is, is seen by tins: with an EVEN of 1 on
 * cell 0 alone, tins of (0, v) behind v minutes answer the set 1.
 */
public final class SheetEdgesTest {
    private static void edge(String sentence, String run) {
        Edges.edge(sentence, run);
    }

    public static void main(String[] args) {
        nothingAtFirst();
        sheet();
        drop();
        item();
        lowestBits();
        copy();
        copyAsIfTakenAhead();
        film();
        filmItems();
        tins();
        tinsItems();
        tinsSets();
        tinsAtTheMostWet();
        firstThatACallNames();
        firstThatOtherCallsName();
        Due.end();
    }

    private static void nothingAtFirst() {
        edge("sheets 0 .. 3: nothing (at first)", """
            drop(0) = NULL
            drop(3) = NULL
            drop(-1) = BAD
            drop(4) = BAD
            drop(LOW) = BAD
            drop(HIGH) = BAD
            item(0, 0, 0, 0) = NULL
            item(3, 3, 0, 0) = NULL
            item(-1, 0, 0, 0) = BAD
            item(4, 0, 0, 0) = BAD
            item(LOW, 0, 0, 0) = BAD
            item(HIGH, 0, 0, 0) = BAD
            film(0, 1, 0, 0, 0) = NULL
            film(0, 1, 3, 0, 0) = NULL
            film(0, 1, -1, 0, 0) = BAD
            film(0, 1, 4, 0, 0) = BAD
            film(0, 1, LOW, 0, 0) = BAD
            film(0, 1, HIGH, 0, 0) = BAD
            tins(0, 0, 0, 1, 1, 0) = NULL
            tins(3, 0, 0, 1, 1, 0) = NULL
            tins(-1, 0, 0, 1, 1, 0) = BAD
            tins(4, 0, 0, 1, 1, 0) = BAD
            tins(LOW, 0, 0, 1, 1, 0) = BAD
            tins(HIGH, 0, 0, 1, 1, 0) = BAD
            copy(0, 0, 3, 0, 0) = NULL
            copy(3, 0, 3, 0, 0) = NULL
            copy(-1, 0, 0, 0, 0) = BAD
            copy(4, 0, 0, 0, 0) = BAD
            copy(0, 0, -1, 0, 0) = BAD
            copy(0, 0, 4, 0, 0) = BAD
            copy(LOW, 0, 0, 0, 0) = BAD
            copy(0, 0, HIGH, 0, 0) = BAD
            """);
        edge("a row of a LANE: 0 bytes, 1 shorts, 2 ints, 3 longs", """
            sheet(0, -1, 2) = BAD
            sheet(0, 4, 2) = BAD
            sheet(0, LOW, 2) = BAD
            sheet(0, HIGH, 2) = BAD
            drop(0) = NULL
            sheet(0, 0, 2) = 2
            sheet(1, 1, 2) = 2
            sheet(2, 2, 2) = 2
            sheet(3, 3, 2) = 2
            item(0, -1, 0, 0) = BAD
            item(0, 4, 0, 0) = BAD
            item(0, LOW, 0, 0) = BAD
            item(0, HIGH, 0, 0) = BAD
            film(0, 1, 0, -1, 0) = BAD
            film(0, 1, 0, 4, 0) = BAD
            film(0, 1, 0, LOW, 0) = BAD
            film(0, 1, 0, HIGH, 0) = BAD
            tins(0, -1, 0, 1, 1, 0) = BAD
            tins(0, 4, 0, 1, 1, 0) = BAD
            tins(0, LOW, 0, 1, 1, 0) = BAD
            tins(0, HIGH, 0, 1, 1, 0) = BAD
            """);
        edge("CAST (of SHEETS another LANE)", """
            sheet(0, 0, 2)
            sheet(1, 1, 2)
            sheet(2, 2, 2)
            sheet(3, 3, 2)
            item(0, 0, 0, 0) = 1
            item(0, 1, 0, 0) = CAST
            item(1, 0, 0, 0) = CAST
            item(1, 1, 0, 0) = 1
            item(1, 2, 0, 0) = CAST
            item(2, 1, 0, 0) = CAST
            item(2, 2, 0, 0) = 1
            item(2, 3, 0, 0) = CAST
            item(3, 2, 0, 0) = CAST
            item(3, 3, 0, 0) = 1
            film(0, 1, 0, 3, 0) = CAST
            film(0, 1, 3, 3, 0) = 1
            tins(2, 3, 0, 1, 1, 0) = CAST
            tins(2, 2, 0, 1, 1, 0) = 1
            copy(0, 0, 1, 0, 1) = CAST
            copy(3, 0, 2, 0, 0) = CAST
            copy(3, 0, 3, 0, 0) = 0
            """);
    }

    private static void sheet() {
        edge("Promise 28: BAD: also n above 24; SIZE: n below 0", """
            sheet(0, 0, 24) = 24
            sheet(0, 0, 25) = BAD
            sheet(0, 0, HIGH) = BAD
            sheet(0, 0, -1) = SIZE
            sheet(0, 0, LOW) = SIZE
            drop(0) = 24
            sheet(0, 3, 0) = 0
            sheet(0, 0, -1) = SIZE
            item(0, 3, 0, 1) = INDEX
            drop(0) = 0
            sheet(3, 0, -1) = SIZE
            drop(3) = NULL
            sheet(3, 0, 1) = 1
            drop(3) = 1
            """);
        edge("Promise 28: a SHEET", """
            sheet(-1, 0, 1) = BAD
            sheet(4, 0, 1) = BAD
            sheet(LOW, 0, 1) = BAD
            sheet(HIGH, 0, 1) = BAD
            sheet(0, 0, 1) = 1
            sheet(3, 0, 1) = 1
            drop(1) = NULL
            """);
        edge("Promise 28: a new row: of the same LANE, of another; longer, shorter", """
            sprinkler(1, 0, 0, 1) = 0
            sheet(0, 2, 24)
            item(0, 2, 1, 7)
            item(0, 2, 23, 8)
            tins(0, 2, 0, 1, 7, 1) = 1
            sheet(0, 2, 24) = 24
            tins(0, 2, 0, 1, 7, 1) = 0
            tins(0, 2, 22, 1, 8, 1) = 0
            item(0, 2, 1, 7)
            sheet(0, 2, 2) = 2
            tins(0, 2, 0, 1, 7, 1) = 0
            tins(0, 2, 1, 1, 7, 1) = INDEX
            sheet(0, 3, 2) = 2
            item(0, 2, 0, 1) = CAST
            """);
    }

    private static void drop() {
        edge("Promise 29: A SHEET holds nothing: how many items it had", """
            sheet(0, 0, 0)
            sheet(1, 1, 1)
            sheet(2, 2, 24)
            drop(0) = 0
            drop(0) = NULL
            drop(1) = 1
            drop(1) = NULL
            drop(2) = 24
            drop(2) = NULL
            drop(3) = NULL
            item(2, 2, 0, 1) = NULL
            sheet(2, 0, 3) = 3
            drop(2) = 3
            """);
        edge("Promise 29: no other one is dropped", """
            sheet(0, 0, 1)
            sheet(1, 0, 2)
            sheet(2, 0, 3)
            sheet(3, 0, 4)
            drop(1) = 2
            drop(0) = 1
            drop(3) = 4
            drop(2) = 3
            """);
    }

    private static void item() {
        edge("Promise 30: INDEX: rows of 24, of 1, of 0", """
            sheet(0, 2, 24)
            item(0, 2, 0, 1) = 1
            item(0, 2, 23, 1) = 1
            item(0, 2, 24, 1) = INDEX
            item(0, 2, -1, 1) = INDEX
            item(0, 2, LOW, 1) = INDEX
            item(0, 2, HIGH, 1) = INDEX
            sheet(0, 2, 1)
            item(0, 2, 0, 1) = 1
            item(0, 2, 1, 1) = INDEX
            sheet(0, 2, 0)
            item(0, 2, 0, 1) = INDEX
            """);
        edge("Promise 30: becomes v, whatever v is", """
            sheet(0, 0, 1)
            sheet(3, 3, 1)
            item(0, 0, 0, LOWEST) = 1
            item(0, 0, 0, HIGHEST) = 1
            item(3, 3, 0, LOWEST) = 1
            item(3, 3, 0, HIGHEST) = 1
            """);
    }

    private static void lowestBits() {
        edge("its lowest bits: bytes", """
            sprinkler(1, 0, 0, 1) = 0
            sheet(0, 0, 2)
            item(0, 0, 1, 127)
            tins(0, 0, 0, 1, 20, 1) = NONE
            item(0, 0, 1, 128)
            tins(0, 0, 0, 1, 20, 1) = NOT // it is -128
            item(0, 0, 1, 255)
            tins(0, 0, 0, 1, 20, 1) = NOT // it is -1
            item(0, 0, 1, 256)
            tins(0, 0, 0, 1, 20, 1) = 0
            item(0, 0, 1, 259)
            tins(0, 0, 0, 1, 3, 1) = 1
            item(0, 0, 1, -253)
            tins(0, 0, 0, 1, 3, 1) = 1
            item(0, 0, 1, -1)
            tins(0, 0, 0, 1, 3, 1) = NOT
            item(0, 0, 1, -256)
            tins(0, 0, 0, 1, 3, 1) = 0
            """);
        edge("its lowest bits: shorts", """
            sprinkler(1, 0, 0, 1) = 0
            sheet(0, 1, 2)
            item(0, 1, 1, 259)
            tins(0, 1, 0, 1, 3, 1) = NONE
            item(0, 1, 1, 65539)
            tins(0, 1, 0, 1, 3, 1) = 1
            item(0, 1, 1, 65535)
            tins(0, 1, 0, 1, 3, 1) = NOT
            item(0, 1, 1, 32768)
            tins(0, 1, 0, 1, 3, 1) = NOT
            item(0, 1, 1, -65533)
            tins(0, 1, 0, 1, 3, 1) = 1
            item(0, 1, 1, 9999)
            tins(0, 1, 0, 1, 3, 1) = NONE
            """);
        edge("its lowest bits: ints", """
            sprinkler(1, 0, 0, 1) = 0
            sheet(0, 2, 2)
            item(0, 2, 1, 65539)
            tins(0, 2, 0, 1, 3, 1) = NOT
            item(0, 2, 1, 4294967299)
            tins(0, 2, 0, 1, 3, 1) = 1
            item(0, 2, 1, -4294967293)
            tins(0, 2, 0, 1, 3, 1) = 1
            item(0, 2, 1, HIGHEST)
            tins(0, 2, 0, 1, 3, 1) = NOT
            item(0, 2, 1, LOWEST)
            tins(0, 2, 0, 1, 3, 1) = 0
            """);
        edge("its lowest bits: longs, all of them", """
            sprinkler(1, 0, 0, 1) = 0
            sheet(0, 3, 2)
            item(0, 3, 1, 4294967299)
            tins(0, 3, 0, 1, 3, 1) = NOT
            item(0, 3, 1, LOWEST)
            tins(0, 3, 0, 1, 3, 1) = NOT
            item(0, 3, 1, HIGHEST)
            tins(0, 3, 0, 1, 3, 1) = NOT
            item(0, 3, 1, 3)
            tins(0, 3, 0, 1, 3, 1) = 1
            item(0, 3, 0, 4294967296)
            tins(0, 3, 0, 1, 3, 1) = NOT
            """);
    }

    private static void copy() {
        edge("Promise 31: INDEX: of the one it comes from", """
            sheet(0, 2, 5)
            sheet(1, 2, 24)
            copy(0, 0, 1, 0, 5) = 5
            copy(0, 0, 1, 0, 6) = INDEX
            copy(0, 4, 1, 0, 1) = 1
            copy(0, 4, 1, 0, 2) = INDEX
            copy(0, 5, 1, 0, 0) = 0
            copy(0, 5, 1, 0, 1) = INDEX
            copy(0, 6, 1, 0, 0) = INDEX
            copy(0, -1, 1, 0, 1) = INDEX
            copy(0, -1, 1, 0, 0) = INDEX
            copy(0, 0, 1, 0, -1) = INDEX
            copy(0, 5, 1, 0, -1) = INDEX
            copy(0, HIGH, 1, 0, HIGH) = INDEX
            copy(0, HIGH, 1, 0, 1) = INDEX
            copy(0, LOW, 1, 0, LOW) = INDEX
            copy(0, 1, 1, 0, HIGH) = INDEX
            copy(0, 0, 1, 0, LOW) = INDEX
            """);
        edge("Promise 31: INDEX: of the one it comes to", """
            sheet(0, 2, 24)
            sheet(1, 2, 5)
            copy(0, 0, 1, 0, 5) = 5
            copy(0, 0, 1, 0, 6) = INDEX
            copy(0, 0, 1, 4, 1) = 1
            copy(0, 0, 1, 4, 2) = INDEX
            copy(0, 0, 1, 5, 0) = 0
            copy(0, 0, 1, 5, 1) = INDEX
            copy(0, 0, 1, 6, 0) = INDEX
            copy(0, 0, 1, -1, 1) = INDEX
            copy(0, 0, 1, -1, 0) = INDEX
            copy(0, 0, 1, HIGH, 1) = INDEX
            copy(0, 0, 1, LOW, 1) = INDEX
            copy(0, 0, 1, HIGH, HIGH) = INDEX
            """);
        edge("Promise 31: rows of no items, of all", """
            sheet(0, 2, 0)
            sheet(1, 2, 0)
            copy(0, 0, 1, 0, 0) = 0
            copy(0, 0, 0, 0, 0) = 0
            copy(0, 0, 1, 0, 1) = INDEX
            copy(0, 1, 1, 0, 0) = INDEX
            sheet(2, 3, 24)
            sheet(3, 3, 24)
            copy(2, 0, 3, 0, 24) = 24
            copy(2, 0, 2, 0, 24) = 24
            copy(2, 0, 3, 0, 25) = INDEX
            copy(2, 24, 3, 24, 0) = 0
            copy(2, 23, 3, 0, 1) = 1
            """);
        edge("Promise 31: NULL (either)", """
            sheet(0, 2, 3)
            copy(0, 0, 1, 0, 1) = NULL
            copy(1, 0, 0, 0, 1) = NULL
            copy(1, 0, 1, 0, 1) = NULL
            copy(0, 9, 1, -9, -1) = NULL
            copy(1, 9, 0, -9, -1) = NULL
            """);
    }

    private static void copyAsIfTakenAhead() {
        String put = """
            sprinkler(1, 0, 0, 1) = 0
            sheet(0, 1, 6)
            item(0, 1, 0, 1)
            item(0, 1, 1, 2)
            item(0, 1, 2, 3)
            item(0, 1, 3, 4)
            item(0, 1, 4, 5)
            item(0, 1, 5, 6)
            """;
        edge("as if all were taken ahead: to later ones of the same", put + """
            copy(0, 0, 0, 1, 5) = 5
            """ + items(1, 1, 2, 3, 4, 5));
        edge("as if all were taken ahead: to earlier ones of the same", put + """
            copy(0, 1, 0, 0, 5) = 5
            """ + items(2, 3, 4, 5, 6, 6));
        edge("as if all were taken ahead: to the very same", put + """
            copy(0, 0, 0, 0, 6) = 6
            """ + items(1, 2, 3, 4, 5, 6));
        edge("as if all were taken ahead: of no items", put + """
            copy(0, 6, 0, 0, 0) = 0
            """ + items(1, 2, 3, 4, 5, 6));
        edge("n items, and none beside them", put + """
            sheet(1, 1, 6)
            copy(0, 1, 1, 2, 2) = 2
            copy(1, 0, 0, 0, 6) = 6
            """ + items(0, 0, 2, 3, 0, 0));
    }

    /** Rows that ask whether the items of sheet 0, a row of shorts, are these. */
    private static String items(int... want) {
        StringBuilder rows = new StringBuilder("sheet(3, 1, 2)\n");
        for (int i = 0; i < want.length; i++) {
            rows.append("copy(0, " + i + ", 3, 1, 1) = 1\n");
            rows.append("tins(3, 1, 0, 1, " + Math.max(1, want[i]) + ", 1) = " + (want[i] == 0 ? 0 : 1) + "\n");
        }
        return rows.toString();
    }

    private static void film() {
        edge("Promise 27: the n CELLS (1 .. 24) from a CELL on; BAD: beyond the last CELL, too", """
            lawn(8, 8) = 64
            sheet(0, 2, 24)
            film(0, 1, 0, 2, 0) = 1
            film(0, 24, 0, 2, 0) = 24
            film(0, 0, 0, 2, 0) = BAD
            film(0, 25, 0, 2, 0) = BAD
            film(0, -1, 0, 2, 0) = BAD
            film(0, LOW, 0, 2, 0) = BAD
            film(0, HIGH, 0, 2, 0) = BAD
            film(40, 24, 0, 2, 0) = 24
            film(41, 24, 0, 2, 0) = BAD
            film(41, 23, 0, 2, 0) = 23
            film(63, 1, 0, 2, 0) = 1
            film(63, 2, 0, 2, 0) = BAD
            film(64, 1, 0, 2, 0) = BAD
            film(-1, 1, 0, 2, 0) = BAD
            film(-1, 2, 0, 2, 0) = BAD
            film(LOW, 1, 0, 2, 0) = BAD
            film(HIGH, 1, 0, 2, 0) = BAD
            film(HIGH, 24, 0, 2, 0) = BAD
            lawn(2, 2) = 4
            film(0, 4, 0, 2, 0) = 4
            film(0, 5, 0, 2, 0) = BAD
            film(3, 1, 0, 2, 0) = 1
            film(3, 2, 0, 2, 0) = BAD
            film(4, 1, 0, 2, 0) = BAD
            """);
        edge("Promise 27: INDEX", """
            sheet(0, 2, 3)
            film(0, 3, 0, 2, 0) = 3
            film(0, 4, 0, 2, 0) = INDEX
            film(0, 3, 0, 2, 1) = INDEX
            film(0, 1, 0, 2, 2) = 1
            film(0, 1, 0, 2, 3) = INDEX
            film(0, 1, 0, 2, -1) = INDEX
            film(0, 1, 0, 2, LOW) = INDEX
            film(0, 1, 0, 2, HIGH) = INDEX
            film(0, 20, 0, 2, HIGH) = INDEX
            sheet(0, 2, 0)
            film(0, 1, 0, 2, 0) = INDEX
            sheet(0, 2, 24)
            film(0, 20, 0, 2, 4) = 20
            film(0, 20, 0, 2, 5) = INDEX
            film(0, 20, 0, 2, 24) = INDEX
            """);
    }

    private static void filmItems() {
        edge("How WET the CELLS are, an item each, comes to a SHEET: these and none beside", """
            text("gggg/gggg;r0034,e0001") = 8
            turn(0, 1)
            minutes(1)
            cells(1) = 4 3 2 1 3 3 2 1
            sheet(0, 1, 6)
            item(0, 1, 0, 9)
            item(0, 1, 5, 9)
            film(2, 4, 0, 1, 1) = 4
            lawn(2, 2)
            sprinkler(1, 0, 0, 1) = 0
            """ + items(9, 2, 1, 3, 3, 9));
        edge("film: the last CELLS to the last items", """
            text("gggg/gggg;r0034") = 8
            turn(0, 1)
            minutes(1)
            sheet(0, 1, 6)
            film(6, 2, 0, 1, 4) = 2
            lawn(2, 2)
            sprinkler(1, 0, 0, 1) = 0
            """ + items(0, 0, 0, 0, 2, 1));
        edge("film: its lowest bits: 9999 is 15 of bytes", """
            sprinkler(2, 0, 0, 9) = 0
            turn(0, 1)
            minutes(60) x 5
            cell(0, 1) = 9999
            sheet(0, 0, 2)
            sheet(1, 1, 2)
            film(0, 1, 0, 0, 1) = 1
            film(0, 1, 1, 1, 1) = 1
            lawn(2, 2)
            sprinkler(1, 0, 0, 1) = 0
            tins(0, 0, 0, 1, 15, 1) = 1
            tins(1, 1, 0, 1, 15, 1) = NONE
            """);
        edge("film: 127 and 128 of bytes", """
            sprinkler(1, 0, 0, 1) = 0
            turn(0, 1)
            minutes(60)
            minutes(60)
            minutes(7)
            sheet(0, 0, 2)
            film(0, 1, 0, 0, 1) = 1
            tins(0, 0, 0, 1, 1, 0) = 0
            minutes(1)
            film(0, 1, 0, 0, 1) = 1
            tins(0, 0, 0, 1, 1, 0) = NOT // it is -128
            """);
    }

    private static void tins() {
        edge("Promise 26: TINS by n CELLS (1 .. 8), two items each", """
            sheet(0, 2, 24)
            tins(0, 2, 0, 0, 1, 0) = BAD
            tins(0, 2, 0, 9, 1, 0) = BAD
            tins(0, 2, 0, -1, 1, 0) = BAD
            tins(0, 2, 0, LOW, 1, 0) = BAD
            tins(0, 2, 0, HIGH, 1, 0) = BAD
            tins(0, 2, 0, 1, 1, 0) = 1
            tins(0, 2, 0, 8, 1, 0) = 1
            tins(0, 2, 8, 8, 1, 0) = 1
            tins(0, 2, 9, 8, 1, 0) = INDEX
            """);
        edge("Promise 26: from item i on; INDEX", """
            sheet(0, 2, 4)
            tins(0, 2, 0, 2, 1, 0) = 1
            tins(0, 2, 1, 2, 1, 0) = INDEX
            tins(0, 2, 0, 3, 1, 0) = INDEX
            tins(0, 2, 2, 1, 1, 0) = 1
            tins(0, 2, 3, 1, 1, 0) = INDEX
            tins(0, 2, 4, 1, 1, 0) = INDEX
            tins(0, 2, -1, 1, 1, 0) = INDEX
            tins(0, 2, -2, 1, 1, 0) = INDEX
            tins(0, 2, LOW, 1, 1, 0) = INDEX
            tins(0, 2, HIGH, 1, 1, 0) = INDEX
            tins(0, 2, HIGH, 8, 1, 0) = INDEX
            sheet(0, 2, 1)
            tins(0, 2, 0, 1, 1, 0) = INDEX
            sheet(0, 2, 0)
            tins(0, 2, 0, 1, 1, 0) = INDEX
            """);
        edge("behind m MINUTES (1 .. 20)", """
            sprinkler(1, 0, 0, 1) = 0
            sheet(0, 2, 2)
            item(0, 2, 1, 1)
            tins(0, 2, 0, 1, 0, 1) = BAD
            tins(0, 2, 0, 1, 21, 1) = BAD
            tins(0, 2, 0, 1, -1, 1) = BAD
            tins(0, 2, 0, 1, LOW, 1) = BAD
            tins(0, 2, 0, 1, HIGH, 1) = BAD
            tins(0, 2, 0, 1, 1, 1) = 1
            tins(0, 2, 0, 1, 20, 1) = NONE
            item(0, 2, 1, 20)
            tins(0, 2, 0, 1, 20, 1) = 1
            tins(0, 2, 0, 1, 19, 1) = NONE
            """);
        edge("Promise 26: how many (what 0), the least (1; NONE)", """
            sprinkler(1, 0, 0, 1) = 0
            sheet(0, 2, 2)
            tins(0, 2, 0, 1, 1, 0) = 1
            tins(0, 2, 0, 1, 1, 1) = 0
            tins(0, 2, 0, 1, 1, 2) = BAD
            tins(0, 2, 0, 1, 1, -1) = BAD
            tins(0, 2, 0, 1, 1, LOW) = BAD
            tins(0, 2, 0, 1, 1, HIGH) = BAD
            item(0, 2, 1, 2)
            tins(0, 2, 0, 1, 1, 0) = 0
            tins(0, 2, 0, 1, 1, 1) = NONE
            """);
    }

    private static void tinsItems() {
        edge("NOT: an item is not as told: a CELL", """
            sheet(0, 3, 2)
            item(0, 3, 0, 0)
            tins(0, 3, 0, 1, 1, 0) = 1
            item(0, 3, 0, 19)
            tins(0, 3, 0, 1, 1, 0) = 1
            item(0, 3, 0, 20)
            tins(0, 3, 0, 1, 1, 0) = NOT
            item(0, 3, 0, -1)
            tins(0, 3, 0, 1, 1, 0) = NOT
            item(0, 3, 0, LOWEST)
            tins(0, 3, 0, 1, 1, 1) = NOT
            item(0, 3, 0, HIGHEST)
            tins(0, 3, 0, 1, 1, 1) = NOT
            item(0, 3, 0, 63)
            tins(0, 3, 0, 1, 1, 0) = NOT
            lawn(8, 8)
            tins(0, 3, 0, 1, 1, 0) = 1
            item(0, 3, 0, 64)
            tins(0, 3, 0, 1, 1, 0) = NOT
            """);
        edge("NOT: an item is not as told: 0 .. 9999", """
            sheet(0, 3, 2)
            item(0, 3, 1, 9999)
            tins(0, 3, 0, 1, 1, 0) = 0
            tins(0, 3, 0, 1, 1, 1) = NONE
            item(0, 3, 1, 10000)
            tins(0, 3, 0, 1, 1, 0) = NOT
            tins(0, 3, 0, 1, 1, 1) = NOT
            item(0, 3, 1, 0)
            tins(0, 3, 0, 1, 1, 0) = 1
            item(0, 3, 1, -1)
            tins(0, 3, 0, 1, 1, 0) = NOT
            item(0, 3, 1, LOWEST)
            tins(0, 3, 0, 1, 1, 0) = NOT
            item(0, 3, 1, HIGHEST)
            tins(0, 3, 0, 1, 1, 0) = NOT
            """);
        edge("NOT: the last of 8, though the first fits nowhere", """
            sheet(0, 2, 18)
            item(0, 2, 1, 5)
            tins(0, 2, 0, 8, 1, 0) = 0
            item(0, 2, 15, 10000)
            tins(0, 2, 0, 8, 1, 0) = NOT
            tins(0, 2, 0, 7, 1, 0) = 0
            item(0, 2, 15, 0)
            item(0, 2, 14, 20)
            tins(0, 2, 0, 8, 1, 0) = NOT
            item(0, 2, 14, 0)
            item(0, 2, 16, -1)
            item(0, 2, 17, -1)
            tins(0, 2, 0, 8, 1, 0) = 0 // an item behind them is not looked at
            item(0, 2, 0, -1)
            tins(0, 2, 2, 7, 1, 0) = 1 // nor one ahead of them
            """);
    }

    private static void tinsSets() {
        edge("sets of SPRINKLERS that might be ON in these, all others not (TAP or not)", """
            text("gg/gg;d0001,d0001,d0001,d0001,d0001") = 4
            rule(1, 1)
            turn(2, 1)
            sheet(0, 2, 4)
            tins(0, 2, 0, 1, 1, 0) = 1 // by none, though one is ON
            tins(0, 2, 0, 1, 1, 1) = 0
            item(0, 2, 1, 10)
            tins(0, 2, 0, 1, 1, 0) = 1 // by all, though TAP is 1
            tins(0, 2, 0, 1, 1, 1) = 31
            item(0, 2, 1, 4)
            tins(0, 2, 0, 1, 1, 0) = 10
            tins(0, 2, 0, 1, 1, 1) = 3
            item(0, 2, 1, 11)
            tins(0, 2, 0, 1, 1, 0) = 0
            tins(0, 2, 0, 1, 1, 1) = NONE
            item(0, 2, 0, 3)
            item(0, 2, 1, 0)
            tins(0, 2, 0, 1, 1, 0) = 32
            tins(0, 2, 0, 1, 1, 1) = 0
            count(3) = 4
            """);
        edge("there are no SPRINKLERS: the one set of none", """
            sheet(0, 2, 2)
            tins(0, 2, 0, 1, 20, 0) = 1
            tins(0, 2, 0, 1, 20, 1) = 0
            item(0, 2, 1, 1)
            tins(0, 2, 0, 1, 20, 0) = 0
            tins(0, 2, 0, 1, 20, 1) = NONE
            """);
        edge("a CELL told twice: alike, not alike", """
            sprinkler(1, 0, 0, 1) = 0
            sheet(0, 2, 4)
            item(0, 2, 1, 3)
            item(0, 2, 3, 3)
            tins(0, 2, 0, 2, 3, 0) = 1
            item(0, 2, 3, 2)
            tins(0, 2, 0, 2, 3, 0) = 0
            """);
    }

    private static void tinsAtTheMostWet() {
        // four quarters bring 560 to the first column in a minute, of which 7 cells of path take 1 each
        edge("how much WETTER: 9999 at most", """
            text("pg/pg/pg/pg/pg/pg/pg/gg;q0049,q0049,q0049,q0049,q0049") = 16
            sheet(0, 1, 2)
            item(0, 1, 0, 14)
            item(0, 1, 1, 9999)
            tins(0, 1, 0, 1, 20, 0) = 6
            tins(0, 1, 0, 1, 20, 1) = 15
            item(0, 1, 1, 8260)
            tins(0, 1, 0, 1, 20, 0) = 10
            tins(0, 1, 0, 1, 20, 1) = 7
            """);
        edge("how much WETTER than now: where it is WET by 9999, nothing", """
            sprinkler(2, 0, 0, 9) = 0
            turn(0, 1)
            minutes(60) x 4
            minutes(37)
            cell(0, 1) = 9972
            sheet(0, 1, 2)
            tins(0, 1, 0, 1, 1, 0) = 1
            item(0, 1, 1, 27)
            tins(0, 1, 0, 1, 1, 1) = 1
            minutes(1)
            tins(0, 1, 0, 1, 1, 1) = NONE
            item(0, 1, 1, 0)
            tins(0, 1, 0, 1, 1, 0) = 2
            tins(0, 1, 0, 1, 1, 1) = 0
            """);
    }

    private static void firstThatACallNames() {
        edge("of several the first that a call names: tins BAD; NULL; CAST; INDEX; NOT", """
            sheet(0, 2, 2)
            item(0, 2, 0, 20)
            tins(0, 2, 0, 1, 1, 0) = NOT
            tins(0, 2, 0, 2, 1, 0) = INDEX
            tins(0, 1, 0, 1, 1, 0) = CAST
            tins(0, 1, -1, 1, 1, 0) = CAST
            tins(1, 2, -1, 1, 1, 0) = NULL
            tins(0, 2, 0, 9, 1, 0) = BAD
            tins(0, 2, 0, 2, 21, 0) = BAD
            tins(0, 1, -1, 1, 1, 2) = BAD
            tins(1, 4, -1, 1, 1, 0) = BAD
            tins(1, 2, -1, 0, 1, 0) = BAD
            tins(1, 2, -1, 1, 0, 0) = BAD
            tins(1, 2, -1, 1, 1, -1) = BAD
            tins(4, 2, -1, 1, 1, 0) = BAD
            """);
        edge("of several the first that a call names: film BAD; NULL; CAST; INDEX", """
            sheet(0, 2, 2)
            film(0, 3, 0, 2, 0) = INDEX
            film(0, 3, 0, 1, 0) = CAST
            film(0, 3, 1, 1, 9) = NULL
            film(19, 2, 0, 2, 9) = BAD
            film(19, 2, 0, 1, 0) = BAD
            film(19, 2, 1, 2, 0) = BAD
            film(0, 25, 1, 2, 0) = BAD
            film(20, 1, 1, 2, 0) = BAD
            film(0, 3, 1, 4, 9) = BAD
            film(0, 3, 4, 1, 9) = BAD
            """);
        edge("of several the first that a call names: sheet BAD; SIZE", """
            sheet(0, 0, -1) = SIZE
            sheet(4, 0, -1) = BAD
            sheet(0, 4, -1) = BAD
            sheet(-1, -1, LOW) = BAD
            """);
        edge("of several the first that a call names: item BAD; NULL; CAST; INDEX", """
            sheet(0, 2, 2)
            item(0, 2, 2, 1) = INDEX
            item(0, 1, 2, 1) = CAST
            item(1, 1, 2, 1) = NULL
            item(1, 4, 2, 1) = BAD
            item(0, 4, 2, 1) = BAD
            item(4, 1, 2, 1) = BAD
            """);
        edge("of several the first that a call names: copy BAD; NULL; CAST; INDEX", """
            sheet(0, 2, 2)
            sheet(1, 1, 2)
            copy(0, 3, 0, 0, 1) = INDEX
            copy(0, 3, 1, 0, 1) = CAST
            copy(0, 3, 2, 0, 1) = NULL
            copy(2, 3, 1, 0, 1) = NULL
            copy(2, 3, 4, 0, 1) = BAD
            copy(4, 3, 2, 0, 1) = BAD
            copy(0, 3, 4, 0, -1) = BAD
            """);
    }

    private static void firstThatOtherCallsName() {
        edge("of several the first that a call names: sprinkler BAD; FULL", """
            text("gg/gg;r0001,r0001,r0001,r0001,r0001") = 4
            sprinkler(0, 0, 0, 1) = FULL
            sprinkler(5, 0, 0, 1) = BAD
            sprinkler(0, 4, 0, 1) = BAD
            sprinkler(0, 0, 5, 1) = BAD
            sprinkler(0, 0, 0, 10) = BAD
            """);
        edge("of several the first that a call names: turn BAD; NOT; FULL", """
            text("gg/gg;r0001,r0001") = 4
            rule(1, 1)
            turn(0, 1) = 1
            turn(1, 1) = FULL
            turn(0, 1) = NOT
            turn(1, 0) = NOT
            turn(1, 2) = BAD
            turn(2, 1) = BAD
            """);
        edge("of several the first that a call names: type BAD; FULL", """
            type(103) x 110 = 110
            type(103) = FULL
            type(31) = BAD
            type(127) = BAD
            """);
        edge("of several the first that a call names: minutes, drift BAD; FULL", """
            minutes(60) x 166
            minutes(60) = FULL
            drift(60) = FULL
            minutes(61) = BAD
            drift(61) = BAD
            minutes(HIGH) = BAD
            drift(HIGH) = BAD
            """);
    }
}
