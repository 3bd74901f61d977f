/** The edges of THE TAPE and of a GARDEN's text (promises 9 and 10): each clause of it, and where its faults are. */
public final class GardenEdgesTest {
    private static final int FAULT = -20;
    private static final String ROW8 = "gcpgcpgc";
    private static final String EIGHT = ROW8 + ("/" + ROW8).repeat(7);
    private static final String ONE = "r0001";

    private static void edge(String sentence, String run) {
        Edges.edge(sentence, run);
    }

    /** A text that is a garden of so many cells. */
    private static void stands(String clause, String text, int cells) {
        Due.due("'" + clause + "': '" + text + "'", Due.garden(new LawnRings(), text), cells);
    }

    /** A text whose first letter that can't stand there is the one behind the fine letters; the end, if none is left. */
    private static void faults(String clause, String fine, String rest) {
        Due.due("'" + clause + "': '" + fine + rest + "'", Due.garden(new LawnRings(), fine + rest), FAULT - fine.length());
    }

    public static void main(String[] args) {
        tape();
        rows();
        letters();
        oneLength();
        sprinklers();
        digits();
        places();
        ends();
        blanks();
        inPlace();
        Due.end();
    }

    private static void tape() {
        edge("Promise 9: BAD: not 32 .. 126", """
            type(32) = 1
            type(126) = 2
            type(31) = BAD
            type(127) = BAD
            type(0) = BAD
            type(-1) = BAD
            type(-33) = BAD
            type(128) = BAD
            type(359) = BAD
            type(LOW) = BAD
            type(HIGH) = BAD
            type(33) = 3
            """);
        edge("Promise 9: FULL: 110", """
            type(103) x 109 = 109
            type(103) = 110
            type(103) = FULL
            type(32) = FULL
            garden() = -28
            type(103) = 1
            """);
        edge("Promise 10: THE TAPE, which is empty then: behind a GARDEN, behind a FAULT", """
            typed("gg/gg;r0001") = 11
            garden() = 4
            type(103) = 1
            garden() = -21
            type(103) = 1
            garden() = -21
            garden() = -20
            garden() = -20
            typed("gg/gg;r0001") = 11
            garden() = 4
            garden() = -20
            """);
    }

    private static void rows() {
        String clause = "2 to 8 ROWS with / between";
        faults(clause, "", "/gg/gg;" + ONE);
        faults(clause, "gg", ";" + ONE);
        stands(clause, "gg/gg;" + ONE, 4);
        stands(clause, "gg/gg/gg;" + ONE, 6);
        stands(clause, "gg" + "/gg".repeat(6) + ";" + ONE, 14);
        stands(clause, "gg" + "/gg".repeat(7) + ";" + ONE, 16);
        faults(clause, "gg" + "/gg".repeat(7), "/gg;" + ONE);
        faults(clause, "gg" + "/gg".repeat(7), "/");
        faults(clause, "gg/", "/gg;" + ONE);
        faults(clause, "gg/gg/", ";" + ONE);
        faults(clause, "gg", ",gg;" + ONE);
        faults(clause, "gg/gg", ",gg;" + ONE);
    }

    private static void letters() {
        String clause = "each of 2 to 8 letters g c p";
        faults(clause, "g", "/g;" + ONE);
        faults(clause, "g", ";" + ONE);
        stands(clause, "gc/pg;" + ONE, 4);
        stands(clause, "gcpgcpg/gcpgcpg;" + ONE, 14);
        stands(clause, ROW8 + "/" + ROW8 + ";" + ONE, 16);
        faults(clause, ROW8, "g/" + ROW8 + "g;" + ONE);
        faults(clause, ROW8, "g");
        stands(clause, EIGHT + ";" + ONE, 64);
        for (String wrong : new String[] {"G", "C", "P", "x", "r", "0", ",", "b", "d", "f", "h", "o", "q", "!", "~"}) {
            faults(clause, "", wrong + "g/gg;" + ONE);
            faults(clause, "g", wrong + "/gg;" + ONE);
            faults(clause, "gg/", wrong + "g;" + ONE);
            faults(clause, "gg/g", wrong + ";" + ONE);
        }
    }

    private static void oneLength() {
        String clause = "all of one length";
        faults(clause, "ggg/gg", "/ggg;" + ONE);
        faults(clause, "ggg/gg", ";" + ONE);
        faults(clause, "ggg/ggg", "g;" + ONE);
        faults(clause, "ggg/ggg/gg", ";" + ONE);
        faults(clause, "ggg/ggg/ggg", "g/");
        faults(clause, ROW8 + "/" + ROW8, "g;" + ONE);
        faults(clause, ROW8 + "/" + "ggggggg", ";" + ONE);
        faults(clause, EIGHT, "g;" + ONE);
        faults(clause, EIGHT.substring(0, 70), ";" + ONE);
    }

    private static void sprinklers() {
        String clause = "then ; and 1 to 5 SPRINKLERS with , between";
        String five = ONE + ("," + ONE).repeat(4);
        faults(clause, "gg/gg;", "");
        faults(clause, "gg/gg;", ";" + ONE);
        faults(clause, "gg/gg;", "," + ONE);
        faults(clause, "gg/gg", ONE);
        stands(clause, "gg/gg;" + ONE, 4);
        stands(clause, "gg/gg;" + ONE + "," + ONE, 4);
        stands(clause, "gg/gg;" + ONE + ("," + ONE).repeat(3), 4);
        stands(clause, "gg/gg;" + five, 4);
        faults(clause, "gg/gg;" + five, "," + ONE);
        faults(clause, "gg/gg;" + five, ",");
        faults(clause, "gg/gg;" + five, ONE);
        faults(clause, "gg/gg;" + ONE + ",", "");
        faults(clause, "gg/gg;" + ONE + ",", "," + ONE);
        faults(clause, "gg/gg;" + ONE, ";");
        faults(clause, "gg/gg;" + ONE, ONE);
        faults(clause, "gg/gg;" + ONE, "/");
        faults(clause, "gg/gg;" + ONE, "1");
        stands("all at their most", EIGHT + ";" + "w7749" + ",w7749".repeat(4), 64);
        edge("r e q d w (KINDS in this order)", """
            text("gg/gg;r0001,e0001,q0001,d0001,w0001") = 4
            of(0, 0) = 0
            of(1, 0) = 1
            of(2, 0) = 2
            of(3, 0) = 3
            of(4, 0) = 4
            """);
        for (String wrong : new String[] {"R", "g", "x", "0", "c", "f", "p", "s", "v", "W", "/"}) {
            faults("r e q d w", "gg/gg;", wrong + "0001");
            faults("r e q d w", "gg/gg;" + ONE + ",", wrong + "0001");
        }
    }

    private static void digits() {
        for (int rows = 2; rows <= 8; rows++) {
            for (int columns = 2; columns <= 8; columns += 3) {
                String lawn = "g".repeat(columns) + ("/" + "g".repeat(columns)).repeat(rows - 1) + ";";
                stands("a digit (a ROW there is)", lawn + "r" + (rows - 1) + "001", rows * columns);
                faults("a digit (a ROW there is)", lawn + "r", rows + "001");
                faults("a digit (a ROW there is)", lawn + "r", "9001");
                stands("a digit (a COLUMN there is)", lawn + "r0" + (columns - 1) + "01", rows * columns);
                faults("a digit (a COLUMN there is)", lawn + "r0", columns + "01");
                faults("a digit (a COLUMN there is)", lawn + "r0", "901");
            }
        }
        stands("a digit 0 .. 4 (REACH)", "gg/gg;r0001", 4);
        stands("a digit 0 .. 4 (REACH)", "gg/gg;r0041", 4);
        faults("a digit 0 .. 4 (REACH)", "gg/gg;r00", "51");
        faults("a digit 0 .. 4 (REACH)", "gg/gg;r00", "91");
        stands("a digit 1 .. 9 (POWER)", "gg/gg;r0001", 4);
        stands("a digit 1 .. 9 (POWER)", "gg/gg;r0009", 4);
        faults("a digit 1 .. 9 (POWER)", "gg/gg;r000", "0");
        faults("a digit 1 .. 9 (POWER)", "gg/gg;r000", "0,r0001");
        // the letters just beside the digits, and some that stand elsewhere
        for (String wrong : new String[] {"/", ":", "g", ",", ";", "-", "r"}) {
            faults("a digit", "gg/gg;r", wrong + "001");
            faults("a digit", "gg/gg;r0", wrong + "01");
            faults("a digit", "gg/gg;r00", wrong + "1");
            faults("a digit", "gg/gg;r000", wrong);
        }
        faults("one digit each", "gg/gg;r0001", "0");
    }

    private static void places() {
        edge("the last of each digit is the SPRINKLER's", """
            text("gggggggg/gggggggg/gggggggg/gggggggg/gggggggg/gggggggg/gggggggg/gggggggg;w7749,r0001,q7001,d0749") = 64
            of(0, 1) = 63
            of(0, 2) = 4
            of(0, 3) = 9
            of(1, 1) = 0
            of(1, 2) = 0
            of(1, 3) = 1
            of(2, 1) = 56
            of(3, 1) = 7
            of(4, 0) = BAD
            """);
    }

    private static void ends() {
        String clause = "(the end: how many there are)";
        String whole = "gc/pg;r0123,w1149";
        for (int size = 0; size <= whole.length(); size++) {
            if (size == 11 || size == 17) {
                stands(clause, whole.substring(0, size), 4);
            } else {
                faults(clause, whole.substring(0, size), "");
            }
        }
        String lastBlanks = whole.substring(0, 9) + " ".repeat(101);
        faults("FAULTS up to the end of a full TAPE", lastBlanks, "");
        faults("FAULTS up to the end of a full TAPE", " ".repeat(110), "");
        faults("a FAULT in the last place of a full TAPE", " ".repeat(109), "x");
        faults("a FAULT in the first place of a full TAPE", "", "x".repeat(110));
        stands("a GARDEN in the last places of a full TAPE", " ".repeat(93) + whole, 4);
        stands("a GARDEN in the first places of a full TAPE", whole + " ".repeat(93), 4);
    }

    private static void blanks() {
        String clause = "blanks count for nothing";
        stands(clause, " g g / g g ; r 0 0 0 1 , w 1 1 4 9 ", 4);
        stands(clause, "   gg/gg;r0001", 4);
        stands(clause, "gg/gg;r0001   ", 4);
        String whole = "gc/pg;r0123,w1149";
        for (int at = 0; at <= whole.length(); at++) {
            stands(clause, whole.substring(0, at) + "  " + whole.substring(at), 4);
        }
        String behind = "the place of the first letter (behind blanks) that can't stand there";
        for (int at = 0; at < whole.length(); at++) {
            faults(behind, whole.substring(0, at) + "   ", "!" + whole.substring(at));
            faults(behind, "  " + whole.substring(0, at), "!" + whole.substring(at));
        }
        faults(behind, "g g ", "; r0001");
        faults(behind, "gg / g g  ", "g");
        faults("the end, behind blanks", "gg/gg ;  ", "");
        faults("no letter but blanks", " ", "");
    }

    private static void inPlace() {
        edge("in place of THE LAWN, of all SPRINKLERS (none is ON); nothing WET, no RUNOFF, MINUTE 0", """
            text("pp/pp/pp;q0049,q0049,r0001,r0001,r0001") = 6
            turn(0, 1)
            turn(4, 1)
            minutes(9)
            text("gc/pg;w1149") = 4
            counts() = 2 2 1 0 0 0 2 10 20 0 0 3 0
            cells(0) = 0 1 2 0
            cells(1) = 0 0 0 0
            cells(2) = 0 0 0 0
            of(0, 0) = 4
            of(0, 4) = 0
            of(1, 0) = BAD
            """);
        edge("a GARDEN is nothing to the IMAGE, to SHEETS", """
            minutes(3)
            image() = 1
            sheet(0, 0, 1)
            sheet(3, 3, 24)
            text("gg/gg;r0001") = 4
            drop(0) = 1
            drop(3) = 24
            restore() = 1
            counts() = 4 5 0 0 3 0 2 10 20 0 0 20 3
            text("gg/gg;r0001,r0001") = 4
            restore() = 1
            count(2) = 0
            """);
        edge("(WIND, TAP, LEAST, MOST, THE DRAW stay)", """
            rule(0, 3)
            rule(1, 5)
            rule(2, 999)
            rule(3, 0)
            seed(HIGH)
            text("gg/gg;r0001") = 4
            counts() = 2 2 1 0 0 3 5 999 0 0 0 4 0
            seed(1) = HIGH
            """);
    }
}
