import java.util.ArrayDeque;
import java.util.ArrayList;
import java.util.Deque;
import java.util.List;
import java.util.regex.Matcher;
import java.util.regex.Pattern;

/** A second writing of the document, slow and plain: it goes minute by minute on copies, and reads gardens by patterns. */
final class PlainLawn {
    private static final int BAD = -1, NOT = -2, FULL = -3, NONE = -4, NULL = -11, CAST = -12, INDEX = -13, SIZE = -14;
    private static final List<Pattern> GARDENS = new ArrayList<>();

    static {
        for (int rows = 2; rows <= 8; rows++) {
            for (int columns = 2; columns <= 8; columns++) {
                String row = "[gcp]{" + columns + "}";
                String one = "[reqdw][0-" + (rows - 1) + "][0-" + (columns - 1) + "][0-4][1-9]";
                GARDENS.add(Pattern.compile(row + "(/" + row + "){" + (rows - 1) + "};" + one + "(," + one + "){0,4}"));
            }
        }
    }

    /** All that a step may change, and all that stays. */
    private static final class World {
        int rows = 4, columns = 5, wind = 0, tap = 2, least = 10, most = 20, minute = 0, runoff = 0, draw = 1;
        int[][] soil = new int[4][5];
        int[][] wet = new int[4][5];
        List<int[]> sprinklers = new ArrayList<>(); // kind, cell, reach, power, on

        World like() {
            World w = new World();
            w.rows = rows;
            w.columns = columns;
            w.wind = wind;
            w.tap = tap;
            w.least = least;
            w.most = most;
            w.minute = minute;
            w.runoff = runoff;
            w.draw = draw;
            w.soil = grid(soil);
            w.wet = grid(wet);
            for (int[] s : sprinklers) {
                w.sprinklers.add(s.clone());
            }
            return w;
        }

        static int[][] grid(int[][] from) {
            int[][] to = new int[from.length][];
            for (int r = 0; r < from.length; r++) {
                to[r] = from[r].clone();
            }
            return to;
        }

        int thrown(int[] s, int row, int column) {
            int down = row - s[1] / columns;
            int right = column - s[1] % columns;
            int far = Math.max(Math.abs(down), Math.abs(right));
            int half = Math.max(1, s[3] / 2);
            if (far > s[2]) {
                return 0;
            }
            if (s[0] == 0) {
                return Math.max(0, s[3] - far);
            }
            if (s[0] == 1) {
                return half;
            }
            if (s[0] == 2) {
                return down < 0 || right < 0 ? 0 : Math.max(0, s[3] - far) * 4;
            }
            if (s[0] == 3) {
                return far > 0 ? 0 : half * 2;
            }
            return Math.max(0, s[3] - far / 2);
        }

        int falls(int row, int column) {
            int sum = 0;
            for (int[] s : sprinklers) {
                if (s[4] == 1 && column >= wind) {
                    sum += thrown(s, row, column - wind);
                }
            }
            return sum;
        }

        int[][] minute() {
            int[][] takes = new int[rows][columns];
            int[] ran = new int[columns];
            for (int r = 0; r < rows; r++) {
                for (int c = 0; c < columns; c++) {
                    int gets = falls(r, c) + ran[c];
                    int takesMost = soil[r][c] == 0 ? gets : soil[r][c] == 1 ? 5 : 1;
                    takes[r][c] = Math.min(gets, takesMost);
                    ran[c] = gets - takes[r][c];
                    wet[r][c] = Math.min(9999, wet[r][c] + takes[r][c]);
                }
            }
            for (int r : ran) {
                runoff = Math.min(999999, runoff + r);
            }
            minute++;
            return takes;
        }

        World behind(int n) {
            World w = like();
            for (int i = 0; i < n; i++) {
                w.minute();
            }
            return w;
        }

        boolean dry(int r, int c) {
            return soil[r][c] < 2 && wet[r][c] < least;
        }

        boolean wrong(int r, int c) {
            return dry(r, c) || wet[r][c] > (soil[r][c] == 2 ? 9 : most);
        }

        int many(boolean alsoTooWet) {
            int sum = 0;
            for (int r = 0; r < rows; r++) {
                for (int c = 0; c < columns; c++) {
                    sum += (alsoTooWet ? wrong(r, c) : dry(r, c)) ? 1 : 0;
                }
            }
            return sum;
        }

        int together() {
            int sum = 0;
            for (int[] row : wet) {
                for (int w : row) {
                    sum += w;
                }
            }
            return sum;
        }

        World only(int set) {
            World w = like();
            for (int i = 0; i < w.sprinklers.size(); i++) {
                w.sprinklers.get(i)[4] = set >> i & 1;
            }
            return w;
        }

        int on() {
            int set = 0;
            for (int i = 0; i < sprinklers.size(); i++) {
                set |= sprinklers.get(i)[4] << i;
            }
            return set;
        }

        boolean noCell(int c) {
            return c < 0 || c >= rows * columns;
        }

        boolean noSprinkler(int s) {
            return s < 0 || s >= sprinklers.size();
        }
    }

    private World now = new World();
    private Deque<World> past = new ArrayDeque<>();
    private World kept;
    private Deque<World> keptPast;
    private final StringBuilder tape = new StringBuilder();
    private final long[][] sheets = new long[4][];
    private final int[] lanes = new int[4];

    private void step() {
        past.push(now.like());
        if (past.size() > 8) {
            past.removeLast();
        }
    }

    int lawn(int rows, int columns) {
        if (rows < 2 || rows > 8 || columns < 2 || columns > 8) {
            return BAD;
        }
        now.rows = rows;
        now.columns = columns;
        now.soil = new int[rows][columns];
        now.wet = new int[rows][columns];
        now.sprinklers.clear();
        now.minute = 0;
        now.runoff = 0;
        past.clear();
        return rows * columns;
    }

    int soil(int cell, int what) {
        if (now.noCell(cell) || what < 0 || what > 2) {
            return BAD;
        }
        int was = now.soil[cell / now.columns][cell % now.columns];
        now.soil[cell / now.columns][cell % now.columns] = what;
        return was;
    }

    int sprinkler(int kind, int cell, int reach, int power) {
        if (kind < 0 || kind > 4 || now.noCell(cell) || reach < 0 || reach > 4 || power < 1 || power > 9) {
            return BAD;
        }
        if (now.sprinklers.size() == 5) {
            return FULL;
        }
        now.sprinklers.add(new int[] {kind, cell, reach, power, 0});
        past.clear();
        return now.sprinklers.size() - 1;
    }

    int of(int sprinkler, int what) {
        if (now.noSprinkler(sprinkler) || what < 0 || what > 5) {
            return BAD;
        }
        if (what < 5) {
            return now.sprinklers.get(sprinkler)[what];
        }
        int sum = 0;
        for (int c = 0; c < now.rows * now.columns; c++) {
            sum += now.thrown(now.sprinklers.get(sprinkler), c / now.columns, c % now.columns);
        }
        return sum;
    }

    int cell(int cell, int what) {
        if (now.noCell(cell) || what < 0 || what > 4) {
            return BAD;
        }
        int r = cell / now.columns;
        int c = cell % now.columns;
        if (what == 0) {
            return now.soil[r][c];
        }
        if (what == 1) {
            return now.wet[r][c];
        }
        if (what == 2) {
            return now.falls(r, c);
        }
        if (what == 3) {
            return now.like().minute()[r][c];
        }
        return now.wrong(r, c) ? 1 : 0;
    }

    int turn(int sprinkler, int is) {
        if (now.noSprinkler(sprinkler) || is < 0 || is > 1) {
            return BAD;
        }
        if (now.sprinklers.get(sprinkler)[4] == is) {
            return NOT;
        }
        if (is == 1 && Integer.bitCount(now.on()) >= now.tap) {
            return FULL;
        }
        now.sprinklers.get(sprinkler)[4] = is;
        return Integer.bitCount(now.on());
    }

    int rule(int what, int v) {
        int was = what < 0 || what > 3 ? BAD : count(5 + what);
        if (what == 0 && v >= 0 && v <= 3) {
            now.wind = v;
        } else if (what == 1 && v >= 1 && v <= 5) {
            now.tap = v;
        } else if (what == 2 && v >= 0 && v <= 999) {
            now.least = v;
        } else if (what == 3 && v >= 0 && v <= 999) {
            now.most = v;
        } else {
            return BAD;
        }
        return was;
    }

    int type(int letter) {
        if (letter < 32 || letter > 126) {
            return BAD;
        }
        if (tape.length() == 110) {
            return FULL;
        }
        return tape.append((char) letter).length();
    }

    /** Whether letters may begin a garden. */
    private static boolean begins(String letters) {
        for (Pattern p : GARDENS) {
            Matcher m = p.matcher(letters);
            if (m.matches() || m.hitEnd()) {
                return true;
            }
        }
        return false;
    }

    int garden() {
        String text = tape.toString();
        tape.setLength(0);
        StringBuilder letters = new StringBuilder();
        for (int i = 0; i < text.length(); i++) {
            if (text.charAt(i) != ' ') {
                letters.append(text.charAt(i));
                if (!begins(letters.toString())) {
                    return -20 - i;
                }
            }
        }
        boolean whole = false;
        for (Pattern p : GARDENS) {
            whole |= p.matcher(letters).matches();
        }
        if (!whole) {
            return -20 - text.length();
        }
        String[] halves = letters.toString().split(";");
        String[] rows = halves[0].split("/");
        lawn(rows.length, rows[0].length());
        for (int r = 0; r < now.rows; r++) {
            for (int c = 0; c < now.columns; c++) {
                now.soil[r][c] = "gcp".indexOf(rows[r].charAt(c));
            }
        }
        for (String s : halves[1].split(",")) {
            int cell = (s.charAt(1) - '0') * now.columns + s.charAt(2) - '0';
            sprinkler("reqdw".indexOf(s.charAt(0)), cell, s.charAt(3) - '0', s.charAt(4) - '0');
        }
        return now.rows * now.columns;
    }

    int count(int what) {
        int[] all = {now.rows, now.columns, now.sprinklers.size(), now.on(), now.minute, now.wind, now.tap, now.least,
            now.most, now.runoff, now.together(), now.many(true), past.size()};
        return what < 0 || what >= all.length ? BAD : all[what];
    }

    int minutes(int n) {
        if (n < 1 || n > 60) {
            return BAD;
        }
        if (now.minute + n > 9999) {
            return FULL;
        }
        for (int i = 0; i < n; i++) {
            step();
            now.minute();
        }
        return now.many(true);
    }

    int sun(int n) {
        if (n < 1 || n > 99) {
            return BAD;
        }
        step();
        for (int[] row : now.wet) {
            for (int c = 0; c < row.length; c++) {
                row[c] = Math.max(0, row[c] - n);
            }
        }
        return now.together();
    }

    int move(int sprinkler, int cell) {
        if (now.noSprinkler(sprinkler) || now.noCell(cell)) {
            return BAD;
        }
        step();
        int was = now.sprinklers.get(sprinkler)[1];
        now.sprinklers.get(sprinkler)[1] = cell;
        return was;
    }

    int drift(int n) {
        if (n < 1 || n > 60) {
            return BAD;
        }
        if (now.minute + n > 9999) {
            return FULL;
        }
        int wind = now.wind;
        for (int i = 0; i < n; i++) {
            now.wind = wind;
            step();
            now.draw = (int) ((now.draw * 1103515245L + 12345L) % (1L << 31));
            now.wind = now.draw / 65536 % 4;
            now.minute();
        }
        now.wind = wind;
        return now.runoff;
    }

    int undo() {
        if (past.isEmpty()) {
            return NONE;
        }
        World was = past.pop();
        now.wet = World.grid(was.wet); // an image may know this step, too
        now.runoff = was.runoff;
        now.minute = was.minute;
        now.draw = was.draw;
        for (int i = 0; i < now.sprinklers.size(); i++) {
            now.sprinklers.get(i)[1] = was.sprinklers.get(i)[1];
        }
        return past.size();
    }

    int seed(int v) {
        if (v < 0) {
            return BAD;
        }
        int was = now.draw;
        now.draw = v;
        return was;
    }

    int ahead(int cell, int n) {
        if (now.noCell(cell) || n < 0 || n > 99) {
            return BAD;
        }
        return now.behind(n).wet[cell / now.columns][cell % now.columns];
    }

    int wrongs(int n, int what) {
        return n < 0 || n > 99 || what < 0 || what > 1 ? BAD : now.behind(n).many(what == 0);
    }

    int enough() {
        World w = now.like();
        for (int n = 0; n <= 99; n++) {
            if (w.many(false) == 0) {
                return n;
            }
            w.minute();
        }
        return NONE;
    }

    int stand(int sprinkler, int n, int what) {
        if (now.noSprinkler(sprinkler) || n < 0 || n > 40 || what < 0 || what > 1) {
            return BAD;
        }
        int best = 0;
        int fewest = 1000;
        for (int c = 0; c < now.rows * now.columns; c++) {
            World w = now.like();
            w.sprinklers.get(sprinkler)[1] = c;
            w.sprinklers.get(sprinkler)[4] = 1;
            int wrong = w.behind(n).many(true);
            if (wrong < fewest) {
                fewest = wrong;
                best = c;
            }
        }
        return what == 0 ? best : fewest;
    }

    int set(int n, int what) {
        if (n < 0 || n > 40 || what < 0 || what > 1) {
            return BAD;
        }
        int best = 0;
        int fewest = 1000;
        for (int many = 0; many <= now.tap; many++) {
            for (int set = 0; set < 1 << now.sprinklers.size(); set++) {
                if (Integer.bitCount(set) == many) {
                    int wrong = now.only(set).behind(n).many(true);
                    if (wrong < fewest) {
                        fewest = wrong;
                        best = set;
                    }
                }
            }
        }
        return what == 0 ? best : fewest;
    }

    int turns(int m, int sprinkler) {
        if (m < 1 || m > 20 || (sprinkler != NONE && now.noSprinkler(sprinkler))) {
            return BAD;
        }
        int many = now.sprinklers.size();
        int[] best = new int[many];
        int bestWrong = 1000;
        int bestLong = 0;
        int ways = (int) Math.pow(3, many);
        for (int way = 0; way < ways; way++) {
            int[] times = new int[many];
            int rest = way;
            for (int i = many - 1; i >= 0; i--) {
                times[i] = rest % 3 * m;
                rest /= 3;
            }
            World w = now;
            int together = 0;
            for (int i = 0; i < many; i++) {
                w = w.only(1 << i).behind(times[i]);
                together += times[i];
            }
            int wrong = w.many(true);
            if (wrong < bestWrong || (wrong == bestWrong && together < bestLong)) {
                best = times;
                bestWrong = wrong;
                bestLong = together;
            }
        }
        return sprinkler == NONE ? bestWrong : best[sprinkler];
    }

    int image() {
        kept = now.like();
        keptPast = new ArrayDeque<>(past);
        return 1;
    }

    int restore() {
        if (kept == null) {
            return NONE;
        }
        now = kept.like();
        past = new ArrayDeque<>();
        for (World w : keptPast) {
            past.addLast(w.like());
        }
        return 1;
    }

    /** What the machine would find in items from i on of a sheet. */
    private int found(int sheet, int lane, int i, int n) {
        if (sheets[sheet] == null) {
            return NULL;
        }
        if (lanes[sheet] != lane) {
            return CAST;
        }
        return i < 0 || (long) i + n > sheets[sheet].length ? INDEX : 0;
    }

    private static boolean notOfFour(int v) {
        return v < 0 || v > 3;
    }

    private static long lowest(int lane, long v) {
        int away = 64 - (8 << lane);
        return v << away >> away;
    }

    int tins(int sheet, int lane, int i, int n, int m, int what) {
        if (notOfFour(sheet) || notOfFour(lane) || n < 1 || n > 8 || m < 1 || m > 20 || what < 0 || what > 1) {
            return BAD;
        }
        int found = found(sheet, lane, i, 2 * n);
        if (found != 0) {
            return found;
        }
        for (int k = i; k < i + 2 * n; k += 2) {
            long most = now.rows * now.columns - 1;
            if (sheets[sheet][k] < 0 || sheets[sheet][k] > most || sheets[sheet][k + 1] < 0 || sheets[sheet][k + 1] > 9999) {
                return NOT;
            }
        }
        List<Integer> fit = new ArrayList<>();
        for (int set = 0; set < 1 << now.sprinklers.size(); set++) {
            World w = now.only(set).behind(m);
            boolean fits = true;
            for (int k = i; k < i + 2 * n; k += 2) {
                int r = (int) sheets[sheet][k] / now.columns;
                int c = (int) sheets[sheet][k] % now.columns;
                fits &= w.wet[r][c] - now.wet[r][c] == sheets[sheet][k + 1];
            }
            if (fits) {
                fit.add(set);
            }
        }
        return what == 0 ? fit.size() : fit.isEmpty() ? NONE : fit.get(0);
    }

    int film(int cell, int n, int sheet, int lane, int i) {
        if (now.noCell(cell) || n < 1 || n > 24 || now.noCell(cell + n - 1) || notOfFour(sheet) || notOfFour(lane)) {
            return BAD;
        }
        int found = found(sheet, lane, i, n);
        if (found != 0) {
            return found;
        }
        for (int k = 0; k < n; k++) {
            sheets[sheet][i + k] = lowest(lane, now.wet[(cell + k) / now.columns][(cell + k) % now.columns]);
        }
        return n;
    }

    int sheet(int sheet, int lane, int n) {
        if (notOfFour(sheet) || notOfFour(lane) || n > 24) {
            return BAD;
        }
        if (n < 0) {
            return SIZE;
        }
        sheets[sheet] = new long[n];
        lanes[sheet] = lane;
        return n;
    }

    int drop(int sheet) {
        if (notOfFour(sheet)) {
            return BAD;
        }
        if (sheets[sheet] == null) {
            return NULL;
        }
        int had = sheets[sheet].length;
        sheets[sheet] = null;
        return had;
    }

    int item(int sheet, int lane, int i, long v) {
        if (notOfFour(sheet) || notOfFour(lane)) {
            return BAD;
        }
        int found = found(sheet, lane, i, 1);
        if (found != 0) {
            return found;
        }
        sheets[sheet][i] = lowest(lane, v);
        return 1;
    }

    int copy(int from, int i, int to, int j, int n) {
        if (notOfFour(from) || notOfFour(to)) {
            return BAD;
        }
        if (sheets[from] == null || sheets[to] == null) {
            return NULL;
        }
        if (lanes[from] != lanes[to]) {
            return CAST;
        }
        if (i < 0 || j < 0 || n < 0 || (long) i + n > sheets[from].length || (long) j + n > sheets[to].length) {
            return INDEX;
        }
        long[] ahead = sheets[from].clone();
        for (int k = 0; k < n; k++) {
            sheets[to][j + k] = ahead[i + k];
        }
        return n;
    }
}
