/** Runs of calls, each for one sentence of the document that names an edge, on a new object. */
final class Edges {
    private Edges() {
    }

    /** A run: a call in each line, behind " = " what it answers (as Said reads both), behind " // " a remark. */
    static void edge(String sentence, String run) {
        Said said = new Said();
        for (String line : run.split("\n")) {
            int remark = line.indexOf(" // ");
            String row = (remark < 0 ? line : line.substring(0, remark)).strip();
            if (!row.isEmpty()) {
                answered(sentence, said, row);
            }
        }
        Due.that(sentence + ": a run has no more than 512 calls", said.isWithinCalls());
    }

    private static void answered(String sentence, Said said, String row) {
        int at = row.lastIndexOf(" = ");
        if (at < 0) {
            said.answer(row);
            return;
        }
        String call = row.substring(0, at).strip();
        String[] want = row.substring(at + 3).strip().split(" +");
        String[] got = said.answer(call).split(" ");
        Due.due("'" + sentence + "': " + call + ": how many answers", got.length, want.length);
        for (int i = 0; i < Math.min(got.length, want.length); i++) {
            String which = want.length > 1 ? ", answer " + i : "";
            Due.due("'" + sentence + "': " + call + which, Long.parseLong(got[i]), Said.value(want[i]));
        }
    }
}
