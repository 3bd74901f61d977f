import java.util.Arrays;
import java.util.function.Function;

/**
 * "What is refused changes nothing, but as told": each refused call, on an object on which much has been done, answers as
 * it should, and behind it all that can be found out about the object is what it would be without the call. Likewise of
 * calls that only ask. To find out changes the object, so that for each part of it a new one is made.
 */
public final class RefusedTest {
    private static final String GARDEN = "gcp/pcg;e0014,r1123,q0012,d0209,w1234";
    private static final String TYPED = "pg/gp/cc;r0001,w2149";

    /** Behind it: 6 cells, 5 sprinklers, as many on as TAP gives for, MINUTE 9993, 8 steps, an image, 3 sheets. */
    private static final String[] DONE = {
        "text(\"" + GARDEN + "\")", "turn(0, 1)", "turn(2, 1)", "minutes(60) x 166", "minutes(29)",
        "rule(0, 1)", "rule(2, 3)", "rule(3, 50)", "sun(99) x 2", "move(1, 2)", "seed(77)", "drift(2)", "sun(3)",
        "image()", "sun(2)", "move(4, 0)", "minutes(2)", "rule(0, 0)",
        "sheet(0, 0, 4)", "item(0, 0, 0, 1)", "item(0, 0, 1, 2)", "item(0, 0, 2, 3)", "item(0, 0, 3, 4)",
        "sheet(1, 0, 3)", "item(1, 0, 0, 5)", "item(1, 0, 1, 6)", "item(1, 0, 2, 7)",
        "sheet(2, 3, 2)", "item(2, 3, 0, 8)", "item(2, 3, 1, 9)"};
    private static final String[] MUCH = behind(DONE, "typed(\"" + TYPED + "\")");
    private static final String[] FULL_TAPE = {"typed(\"" + TYPED + " ".repeat(110 - TYPED.length()) + "\")"};
    private static final String[] NOTHING = {};

    private static final String[] REFUSED = {
        "lawn(1, 5) = BAD", "lawn(9, 5) = BAD", "lawn(5, 1) = BAD", "lawn(5, 9) = BAD", "lawn(LOW, HIGH) = BAD",
        "soil(-1, 0) = BAD", "soil(6, 0) = BAD", "soil(0, -1) = BAD", "soil(0, 3) = BAD",
        "sprinkler(-1, 0, 0, 1) = BAD", "sprinkler(5, 0, 0, 1) = BAD", "sprinkler(0, -1, 0, 1) = BAD",
        "sprinkler(0, 6, 0, 1) = BAD", "sprinkler(0, 0, -1, 1) = BAD", "sprinkler(0, 0, 5, 1) = BAD",
        "sprinkler(0, 0, 0, 0) = BAD", "sprinkler(0, 0, 0, 10) = BAD", "sprinkler(0, 0, 0, 1) = FULL",
        "of(-1, 0) = BAD", "of(5, 0) = BAD", "of(0, -1) = BAD", "of(0, 6) = BAD",
        "cell(-1, 0) = BAD", "cell(6, 0) = BAD", "cell(0, -1) = BAD", "cell(0, 5) = BAD",
        "turn(-1, 1) = BAD", "turn(5, 1) = BAD", "turn(0, -1) = BAD", "turn(0, 2) = BAD", "turn(0, 1) = NOT",
        "turn(1, 0) = NOT", "turn(1, 1) = FULL", "turn(4, 1) = FULL",
        "rule(-1, 1) = BAD", "rule(4, 1) = BAD", "rule(0, -1) = BAD", "rule(0, 4) = BAD", "rule(1, 0) = BAD",
        "rule(1, 6) = BAD", "rule(2, -1) = BAD", "rule(2, 1000) = BAD", "rule(3, -1) = BAD", "rule(3, 1000) = BAD",
        "type(31) = BAD", "type(127) = BAD", "count(-1) = BAD", "count(13) = BAD",
        "minutes(0) = BAD", "minutes(61) = BAD", "minutes(LOW) = BAD", "minutes(7) = FULL", "minutes(60) = FULL",
        "sun(0) = BAD", "sun(100) = BAD", "sun(LOW) = BAD",
        "move(-1, 0) = BAD", "move(5, 0) = BAD", "move(0, -1) = BAD", "move(0, 6) = BAD",
        "drift(0) = BAD", "drift(61) = BAD", "drift(HIGH) = BAD", "drift(7) = FULL", "drift(60) = FULL",
        "seed(-1) = BAD", "seed(LOW) = BAD",
        "ahead(-1, 0) = BAD", "ahead(6, 0) = BAD", "ahead(0, -1) = BAD", "ahead(0, 100) = BAD",
        "wrongs(-1, 0) = BAD", "wrongs(100, 0) = BAD", "wrongs(0, -1) = BAD", "wrongs(0, 2) = BAD",
        "stand(-1, 0, 0) = BAD", "stand(5, 0, 0) = BAD", "stand(0, -1, 0) = BAD", "stand(0, 41, 0) = BAD",
        "stand(0, 0, -1) = BAD", "stand(0, 0, 2) = BAD",
        "set(-1, 0) = BAD", "set(41, 0) = BAD", "set(0, -1) = BAD", "set(0, 2) = BAD",
        "turns(0, 0) = BAD", "turns(21, 0) = BAD", "turns(1, -1) = BAD", "turns(1, 5) = BAD", "turns(1, -5) = BAD",
        "tins(-1, 0, 0, 1, 1, 0) = BAD", "tins(4, 0, 0, 1, 1, 0) = BAD", "tins(0, -1, 0, 1, 1, 0) = BAD",
        "tins(0, 4, 0, 1, 1, 0) = BAD", "tins(0, 0, 0, 0, 1, 0) = BAD", "tins(0, 0, 0, 9, 1, 0) = BAD",
        "tins(0, 0, 0, 1, 0, 0) = BAD", "tins(0, 0, 0, 1, 21, 0) = BAD", "tins(0, 0, 0, 1, 1, -1) = BAD",
        "tins(0, 0, 0, 1, 1, 2) = BAD", "tins(3, 0, 0, 1, 1, 0) = NULL", "tins(0, 1, 0, 1, 1, 0) = CAST",
        "tins(0, 0, -1, 1, 1, 0) = INDEX", "tins(0, 0, 3, 1, 1, 0) = INDEX", "tins(0, 0, 0, 3, 1, 0) = INDEX",
        "tins(2, 3, 0, 1, 1, 0) = NOT", "tins(1, 0, 1, 1, 1, 0) = NOT",
        "film(-1, 1, 0, 0, 0) = BAD", "film(6, 1, 0, 0, 0) = BAD", "film(0, 0, 0, 0, 0) = BAD",
        "film(0, 25, 0, 0, 0) = BAD", "film(0, 7, 0, 0, 0) = BAD", "film(5, 2, 0, 0, 0) = BAD",
        "film(0, 1, -1, 0, 0) = BAD", "film(0, 1, 4, 0, 0) = BAD", "film(0, 1, 0, -1, 0) = BAD",
        "film(0, 1, 0, 4, 0) = BAD", "film(0, 1, 3, 0, 0) = NULL", "film(0, 1, 0, 3, 0) = CAST",
        "film(0, 1, 2, 0, 0) = CAST", "film(0, 5, 0, 0, 0) = INDEX", "film(0, 2, 0, 0, 3) = INDEX",
        "film(0, 1, 0, 0, -1) = INDEX",
        "sheet(-1, 0, 1) = BAD", "sheet(4, 0, 1) = BAD", "sheet(0, -1, 1) = BAD", "sheet(0, 4, 1) = BAD",
        "sheet(0, 0, 25) = BAD", "sheet(3, 0, 25) = BAD", "sheet(0, 0, -1) = SIZE", "sheet(3, 0, -1) = SIZE",
        "drop(-1) = BAD", "drop(4) = BAD", "drop(3) = NULL",
        "item(-1, 0, 0, 9) = BAD", "item(4, 0, 0, 9) = BAD", "item(0, -1, 0, 9) = BAD", "item(0, 4, 0, 9) = BAD",
        "item(3, 0, 0, 9) = NULL", "item(0, 1, 0, 9) = CAST", "item(2, 0, 0, 7) = CAST", "item(0, 0, -1, 9) = INDEX",
        "item(0, 0, 4, 9) = INDEX", "item(1, 0, 3, 9) = INDEX",
        "copy(-1, 0, 0, 0, 1) = BAD", "copy(4, 0, 0, 0, 1) = BAD", "copy(0, 0, -1, 0, 1) = BAD",
        "copy(0, 0, 4, 0, 1) = BAD", "copy(3, 0, 0, 0, 1) = NULL", "copy(0, 0, 3, 0, 1) = NULL",
        "copy(0, 0, 2, 0, 1) = CAST", "copy(2, 0, 0, 0, 1) = CAST", "copy(0, 0, 1, 0, 4) = INDEX",
        "copy(1, 0, 0, 0, 4) = INDEX", "copy(0, 2, 0, 0, 3) = INDEX", "copy(0, 0, 0, 2, 3) = INDEX",
        "copy(0, -1, 1, 0, 2) = INDEX", "copy(0, 0, 1, -1, 2) = INDEX", "copy(0, 0, 1, 0, -1) = INDEX"};

    private static final String[] REFUSED_AT_FIRST = {
        "soil(20, 0) = BAD", "of(0, 0) = BAD", "turn(0, 1) = BAD", "turn(0, 0) = BAD", "move(0, 0) = BAD",
        "undo() = NONE", "restore() = NONE", "enough() = NONE", "stand(0, 0, 0) = BAD", "turns(1, 0) = BAD",
        "tins(0, 0, 0, 1, 1, 0) = NULL", "film(0, 1, 0, 0, 0) = NULL", "drop(0) = NULL", "item(0, 0, 0, 9) = NULL",
        "copy(0, 0, 1, 0, 1) = NULL", "copy(0, 0, 0, 0, 0) = NULL", "sheet(0, 0, -1) = SIZE", "sheet(1, 0, 25) = BAD"};

    private static final String[] REFUSED_BY_A_FULL_TAPE = {
        "type(103) = FULL", "type(32) = FULL", "type(126) = FULL", "type(31) = BAD", "type(127) = BAD"};

    private static final String[] ASKED = {
        "of(0, 5)", "of(4, 5)", "cell(0, 2)", "cell(5, 3)", "cell(3, 4)", "count(10)", "count(11)", "count(12)",
        "ahead(0, 0)", "ahead(5, 99)", "wrongs(0, 0)", "wrongs(99, 1)", "enough()", "stand(0, 0, 0)", "stand(4, 40, 1)",
        "set(0, 0)", "set(40, 1)", "turns(1, NONE)", "turns(20, 4)", "tins(0, 0, 0, 2, 20, 0)", "tins(0, 0, 0, 1, 1, 1)"};

    public static void main(String[] args) {
        for (String row : REFUSED) {
            changesNothing(MUCH, row);
        }
        for (String row : REFUSED_AT_FIRST) {
            changesNothing(NOTHING, row);
        }
        for (String row : REFUSED_BY_A_FULL_TAPE) {
            changesNothing(FULL_TAPE, row);
        }
        for (String call : ASKED) {
            changesNothing(MUCH, call);
        }
        faultsChangeTheTapeAlone();
        callsThatDoAreSeen();
        Due.end();
    }

    private static String[] behind(String[] calls, String... more) {
        String[] all = Arrays.copyOf(calls, calls.length + more.length);
        System.arraycopy(more, 0, all, calls.length, more.length);
        return all;
    }

    private static String found(Part part, String[] calls) {
        Said said = new Said();
        for (String call : calls) {
            said.answer(call);
        }
        String found = part.of(said);
        Due.that(part + " is found within the calls that an object is used for", said.isWithinCalls());
        return found;
    }

    private static void changesNothing(String[] ahead, String row) {
        int at = row.indexOf(" = ");
        String call = at < 0 ? row : row.substring(0, at);
        if (at >= 0) {
            Due.due(call, last(ahead, call), Said.value(row.substring(at + 3)));
        }
        for (Part part : Part.values()) {
            Due.that(call + " changes nothing of " + part, found(part, ahead).equals(found(part, behind(ahead, call))));
        }
    }

    private static long last(String[] ahead, String... calls) {
        Said said = new Said();
        String answer = "";
        for (String call : behind(ahead, calls)) {
            answer = said.answer(call);
        }
        return Long.parseLong(answer);
    }

    /** Promise 10: "A FAULT (all else stays)": wherever the reading ends. */
    private static void faultsChangeTheTapeAlone() {
        String[] texts = {"", "x", "gg", "gg/gg/pp", "pp/pp;", "pp/pp;x", "pp/pp;r0009,w", "pp/pp;r9", "pp/pp;r0009;",
            "pp/pp;r0001,r0001,r0001,r0001,r0001,r0001", "cc/cc/cc;e0009,e0009,e0009,e0009,e0009,"};
        for (String text : texts) {
            String typed = "typed(\"" + text + "\")";
            Due.that("'" + text + "' is a fault", last(DONE, typed, "garden()") <= -20);
            Due.due("the tape is empty behind '" + text + "'", last(DONE, typed, "garden()", "type(103)"), 1);
            for (Part part : Part.values()) {
                Due.that("the fault of '" + text + "' changes nothing of " + part,
                    found(part, DONE).equals(found(part, behind(DONE, typed, "garden()"))));
            }
        }
    }

    /** Lest the parts be blind: what is not refused is seen in one of them. */
    private static void callsThatDoAreSeen() {
        String[] calls = {"lawn(2, 3)", "soil(5, 1)", "turn(0, 0)", "rule(0, 2)", "rule(1, 3)", "rule(2, 4)", "rule(3, 49)",
            "garden()", "minutes(1)", "sun(1)", "move(0, 1)", "drift(1)", "undo()", "seed(78)", "image()", "restore()",
            "film(0, 1, 0, 0, 0)", "sheet(0, 0, 4)", "sheet(0, 1, 4)", "sheet(3, 0, 0)", "sheet(1, 0, 4)", "drop(0)",
            "item(0, 0, 0, 2)", "item(2, 3, 1, 8)", "copy(0, 1, 0, 0, 1)", "copy(0, 0, 1, 2, 1)"};
        for (String call : calls) {
            boolean seen = false;
            for (Part part : Part.values()) {
                seen |= !found(part, MUCH).equals(found(part, behind(MUCH, call)));
            }
            Due.that(call + " is seen", seen);
        }
    }

    /** Parts of what can be found out about an object. */
    private enum Part {
        NOW(RefusedTest::now), PAST(RefusedTest::past), IMAGE(RefusedTest::image), TAPE(RefusedTest::tape),
        SHEETS(RefusedTest::sheets);

        private final Function<Said, String> found;

        Part(Function<Said, String> found) {
            this.found = found;
        }

        String of(Said said) {
            return found.apply(said);
        }
    }

    private static String now(Said said) {
        StringBuilder all = new StringBuilder(said.counts());
        for (int what = 0; what < 5; what++) {
            all.append(" | ").append(said.cells(what));
        }
        for (int s = 0; s < 5; s++) {
            for (int what = 0; what < 6; what++) {
                all.append(' ').append(said.call("of", s, what));
            }
        }
        return all.append(" | ").append(said.call("seed", 0)).toString();
    }

    private static String past(Said said) {
        StringBuilder all = new StringBuilder();
        for (int left = said.call("count", 12); left >= 0; left--) {
            all.append(said.call("undo")).append(':');
            for (int c = 0; c < 6; c++) {
                all.append(' ').append(said.call("cell", c, 1));
            }
            for (int s = 0; s < 5; s++) {
                all.append(' ').append(said.call("of", s, 1));
            }
            all.append(' ').append(said.call("count", 4)).append(' ').append(said.call("count", 9));
            all.append(' ').append(said.call("seed", 0)).append('\n');
        }
        return all.toString();
    }

    private static String image(Said said) {
        return said.call("restore") + ": " + now(said) + "\n" + past(said);
    }

    private static String tape(Said said) {
        int typed = said.call("type", ' ');
        int answer = said.call("garden");
        return typed + ", " + answer + ": " + now(said);
    }

    private static String sheets(Said said) {
        StringBuilder all = new StringBuilder();
        int[] lanes = {-1, -1, -1, -1};
        for (int s = 0; s < 4; s++) {
            for (int lane = 0; lane < 4; lane++) {
                int answer = said.call("tins", s, lane, -1, 1, 1, 0);
                all.append(answer).append(' ');
                lanes[s] = answer == LawnRings.INDEX ? lane : lanes[s];
            }
            for (int size = 0; size < 6; size++) {
                all.append(said.call("copy", s, 0, s, 0, size)).append(' ');
            }
        }
        said.call("lawn", 2, 2);
        said.call("sprinkler", 1, 0, 0, 1);
        // the last one is none, or has no items that could be lost
        for (int s = 0; s < 3; s++) {
            if (lanes[s] >= 0) {
                all.append("| ").append(items(said, s, lanes[s], 3));
            }
        }
        return all.toString();
    }

    /** The items of a sheet (1 to 9 are told from one another), each copied to another sheet. */
    private static String items(Said said, int sheet, int lane, int other) {
        StringBuilder all = new StringBuilder();
        said.call("sheet", other, lane, 2);
        for (int i = 0; i < 6 && said.call("copy", sheet, i, other, 1, 1) == 1; i++) {
            for (int m = 1; m <= 9; m++) {
                all.append(said.call("tins", other, lane, 0, 1, m, 1)).append(',');
            }
            all.append(' ');
        }
        return all.toString();
    }
}
