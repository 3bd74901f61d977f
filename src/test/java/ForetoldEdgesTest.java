/** The edges of what is foretold (Terms 2, promises 18 to 23). */
public final class ForetoldEdgesTest {
    private static void edge(String sentence, String run) {
        Edges.edge(sentence, run);
    }

    public static void main(String[] args) {
        ahead();
        wrongs();
        enough();
        stand();
        standOfLikeOnes();
        set();
        setOfLikeOnes();
        turns();
        turnsOfLikeOnes();
        toTheLastCell();
        allWrong();
        inWind();
        Due.end();
    }

    private static void ahead() {
        edge("behind n MINUTES (0 .. 99) how WET a CELL is", """
            sprinkler(1, 0, 0, 2) = 0
            turn(0, 1)
            minutes(3)
            ahead(0, 0) = 3
            ahead(0, 1) = 4
            ahead(0, 98) = 101
            ahead(0, 99) = 102
            ahead(0, 100) = BAD
            ahead(0, -1) = BAD
            ahead(0, LOW) = BAD
            ahead(0, HIGH) = BAD
            """);
        edge("Promise 18: a CELL; BAD", """
            sprinkler(1, 19, 0, 2) = 0
            turn(0, 1)
            ahead(0, 5) = 0
            ahead(19, 5) = 5
            ahead(20, 5) = BAD
            ahead(-1, 5) = BAD
            ahead(LOW, 5) = BAD
            ahead(HIGH, 5) = BAD
            """);
        edge("by who is ON, WIND as they are", """
            text("gggg/gggg;d0001,d0001") = 8
            ahead(0, 99) = 0
            turn(0, 1)
            ahead(0, 99) = 198
            turn(1, 1)
            ahead(0, 99) = 396
            rule(0, 3)
            ahead(0, 99) = 0
            ahead(3, 99) = 396
            """);
        edge("FORETOLD from the last MINUTE", """
            sprinkler(1, 0, 0, 1) = 0
            minutes(60) x 166
            minutes(39)
            turn(0, 1)
            minutes(1) = FULL
            ahead(0, 99) = 99
            wrongs(99, 1) = 19
            stand(0, 40, 1) = 20
            set(40, 0) = 0
            turns(5, 0) = 10
            count(4) = 9999
            """);
    }

    private static void wrongs() {
        edge("Promise 19: n (0 .. 99), what 0, 1; BAD", """
            text("gp/pp;e0002") = 4
            turn(0, 1)
            rule(3, 98)
            rule(2, 98)
            wrongs(0, 0) = 1
            wrongs(0, 1) = 1
            wrongs(97, 0) = 1
            wrongs(97, 1) = 1
            wrongs(98, 0) = 0
            wrongs(98, 1) = 0
            wrongs(99, 0) = 1
            wrongs(99, 1) = 0
            wrongs(100, 0) = BAD
            wrongs(-1, 0) = BAD
            wrongs(LOW, 1) = BAD
            wrongs(HIGH, 1) = BAD
            wrongs(0, -1) = BAD
            wrongs(0, 2) = BAD
            wrongs(0, LOW) = BAD
            wrongs(0, HIGH) = BAD
            """);
        edge("how many CELLS of GRASS, CLAY are WET by less than LEAST: never PATH", """
            text("gc/pp;e0111") = 4
            rule(2, 5)
            wrongs(0, 0) = 2
            wrongs(0, 1) = 2
            turn(0, 1)
            wrongs(4, 1) = 2
            wrongs(5, 1) = 0
            wrongs(9, 0) = 0
            wrongs(10, 0) = 2
            wrongs(10, 1) = 0
            rule(2, 0)
            wrongs(0, 1) = 0
            """);
    }

    private static void enough() {
        edge("ENOUGH: the first of 0 to 99 MINUTES", """
            text("gp/cp;e0012") = 4
            turn(0, 1)
            rule(2, 0)
            enough() = 0
            rule(2, 1)
            enough() = 1
            rule(2, 98)
            enough() = 98
            rule(2, 99)
            enough() = 99
            """);
        edge("ENOUGH; NONE: a MINUTE too late", """
            text("gp/cp;e0012") = 4
            turn(0, 1)
            rule(2, 100)
            enough() = NONE
            minutes(1)
            enough() = 99
            turn(0, 0)
            enough() = NONE
            """);
        edge("behind which none of these is WET by less than LEAST: GRASS, CLAY, each", """
            text("gg/cp;d0001,d0101,r1001") = 4
            rule(1, 5)
            turn(0, 1)
            turn(1, 1)
            enough() = NONE
            turn(2, 1)
            enough() = 10 // 2, 2 and 1 in a MINUTE
            soil(2, 2)
            enough() = 5
            """);
        edge("none of these: there are none", """
            text("pp/pp;r0001") = 4
            rule(2, 999)
            enough() = 0
            """);
        edge("none by SPRINKLERS that there are not; but by LEAST 0", """
            enough() = NONE
            rule(2, 0)
            enough() = 0
            """);
        edge("MOST is nothing to ENOUGH", """
            sprinkler(1, 7, 4, 2) = 0
            turn(0, 1)
            rule(3, 0)
            enough() = 10
            """);
    }

    private static void stand() {
        edge("Promise 21: a SPRINKLER; BAD", """
            stand(0, 1, 0) = BAD
            sprinkler(0, 0, 0, 1) = 0
            stand(0, 1, 0) = 0
            stand(1, 1, 0) = BAD
            stand(-1, 1, 0) = BAD
            stand(LOW, 1, 0) = BAD
            stand(HIGH, 1, 0) = BAD
            """);
        edge("Promise 21: n 0 .. 40", """
            text("gp/pp;d1101") = 4
            rule(2, 80)
            rule(3, 80)
            stand(0, 0, 0) = 0
            stand(0, 0, 1) = 1
            stand(0, 39, 1) = 1
            stand(0, 40, 0) = 0
            stand(0, 40, 1) = 0
            rule(3, 79)
            stand(0, 40, 1) = 1
            stand(0, 41, 0) = BAD
            stand(0, -1, 0) = BAD
            stand(0, LOW, 0) = BAD
            stand(0, HIGH, 0) = BAD
            """);
        edge("Promise 21: the CELL (what 0), how many (1)", """
            sprinkler(0, 0, 0, 1) = 0
            stand(0, 1, 0) = 0
            stand(0, 1, 1) = 20
            stand(0, 1, -1) = BAD
            stand(0, 1, 2) = BAD
            stand(0, 1, LOW) = BAD
            stand(0, 1, HIGH) = BAD
            """);
        edge("the CELL on which it should stand: the first, the last", """
            text("gp/pp;d1101") = 4
            rule(2, 2)
            stand(0, 1, 0) = 0
            stand(0, 1, 1) = 0
            soil(0, 2)
            soil(3, 0)
            stand(0, 1, 0) = 3
            stand(0, 1, 1) = 0
            lawn(8, 8) = 64
            sprinkler(3, 0, 0, 1) = 0
            rule(2, 1)
            soil(63, 0)
            stand(0, 1, 1) = 63
            stand(0, 1, 0) = 0
            """);
        edge("(it ON as well as those that are, TAP or not)", """
            text("gg/pp;d0001,d1101,d1101") = 4
            rule(1, 1)
            rule(2, 2)
            turn(0, 1) = 1
            stand(1, 1, 0) = 1
            stand(1, 1, 1) = 0
            stand(0, 1, 0) = 0 // it throws from one place
            stand(0, 1, 1) = 1
            turn(0, 0) = 0
            stand(1, 1, 0) = 0
            stand(1, 1, 1) = 1
            count(3) = 0
            of(1, 1) = 3
            """);
    }

    private static void standOfLikeOnes() {
        edge("so that fewest are WRONG behind them, of like ones the first", """
            text("pg/pg;d0001") = 4
            rule(2, 2)
            stand(0, 1, 0) = 1
            stand(0, 1, 1) = 1
            minutes(1)
            move(0, 3) = 0
            turn(0, 1)
            minutes(1)
            stand(0, 1, 0) = 1
            stand(0, 1, 1) = 0
            """);
        edge("STAND in WIND: where it throws from, not where it falls", """
            text("ppg/ppp;d0001") = 6
            rule(2, 2)
            rule(0, 2)
            stand(0, 1, 0) = 0
            stand(0, 1, 1) = 0
            rule(0, 1)
            stand(0, 1, 0) = 1
            rule(0, 3)
            stand(0, 1, 0) = 0 // all is lost from any CELL
            stand(0, 1, 1) = 1
            """);
    }

    private static void set() {
        edge("Promise 22: n 0 .. 40", """
            text("gp/pp;d0001") = 4
            rule(2, 80)
            rule(3, 80)
            set(0, 0) = 0
            set(0, 1) = 1
            set(39, 0) = 0
            set(39, 1) = 1
            set(40, 0) = 1
            set(40, 1) = 0
            rule(3, 79)
            set(40, 0) = 0
            set(40, 1) = 1
            set(41, 0) = BAD
            set(-1, 0) = BAD
            set(LOW, 0) = BAD
            set(HIGH, 0) = BAD
            """);
        edge("Promise 22: the set (what 0), how many (1)", """
            set(1, 0) = 0
            set(1, 1) = 20
            set(1, -1) = BAD
            set(1, 2) = BAD
            set(1, LOW) = BAD
            set(1, HIGH) = BAD
            """);
        edge("(no more than TAP)", """
            text("ggg/ggp;d0001,d0101,d0201,d1001,d1101") = 6
            rule(2, 2)
            rule(1, 1)
            set(1, 0) = 1
            set(1, 1) = 4
            rule(1, 2)
            set(1, 0) = 3
            set(1, 1) = 3
            rule(1, 4)
            set(1, 0) = 15
            set(1, 1) = 1
            rule(1, 5)
            set(1, 0) = 31
            set(1, 1) = 0
            """);
        edge("all others not", """
            text("gg/pp;d0001,d0101") = 4
            rule(2, 2)
            turn(1, 1)
            rule(1, 1)
            set(1, 0) = 1
            set(1, 1) = 1
            count(3) = 2
            """);
    }

    private static void setOfLikeOnes() {
        edge("of like ones the fewest SPRINKLERS", """
            text("gg/pp;d0001,d0101,e0012") = 4
            rule(2, 1)
            set(1, 0) = 4 // 3 would do it, too
            set(1, 1) = 0
            rule(2, 2)
            set(1, 0) = 3
            set(1, 1) = 0
            rule(2, 3)
            set(1, 0) = 5 // 2 and 1 on the first CELL
            set(1, 1) = 1
            rule(1, 1)
            set(1, 0) = 0 // each alone is like none
            set(1, 1) = 2
            """);
        edge("of these the least set", """
            text("gg/pp;d0101,d0101,d0001,d0001,d0001") = 4
            rule(2, 2)
            set(1, 0) = 5
            set(1, 1) = 0
            rule(1, 1)
            set(1, 0) = 1
            set(1, 1) = 1
            """);
        edge("none at all may be best", """
            text("gg/pp;q0049,q0049,q0049,q0049,q0049") = 4
            rule(1, 5)
            rule(2, 0)
            rule(3, 0)
            set(40, 0) = 0
            set(40, 1) = 0
            """);
    }

    private static void turns() {
        edge("TURNS of m MINUTES (1 .. 20)", """
            text("gp/pp;d0001") = 4
            rule(3, 80)
            rule(2, 40)
            turns(0, NONE) = BAD
            turns(21, NONE) = BAD
            turns(-1, NONE) = BAD
            turns(LOW, NONE) = BAD
            turns(HIGH, NONE) = BAD
            turns(0, 0) = BAD
            turns(21, 0) = BAD
            turns(20, NONE) = 0
            turns(20, 0) = 20
            rule(2, 2)
            turns(1, NONE) = 0
            turns(1, 0) = 1
            """);
        edge("each for 0, m or 2 m MINUTES", """
            text("gp/pp;d0001") = 4
            rule(3, 80)
            rule(2, 0)
            turns(20, 0) = 0
            rule(2, 1)
            turns(20, 0) = 20
            rule(2, 40)
            turns(20, 0) = 20
            rule(2, 41)
            turns(20, 0) = 40
            rule(2, 80)
            turns(20, 0) = 40
            turns(20, NONE) = 0
            rule(2, 81)
            turns(20, 0) = 0
            turns(20, NONE) = 1
            rule(2, 4)
            turns(1, 0) = 2
            rule(2, 5)
            turns(1, 0) = 0
            turns(1, NONE) = 1
            """);
        edge("Promise 23: how many (sprinkler NONE), how long one is ON. BAD", """
            turns(1, NONE) = 20
            turns(1, 0) = BAD
            sprinkler(0, 0, 0, 1) = 0
            turns(1, 0) = 0
            turns(1, 1) = BAD
            turns(1, -1) = BAD
            turns(1, -2) = BAD
            turns(1, -3) = BAD
            turns(1, -5) = BAD
            turns(1, LOW) = BAD
            turns(1, HIGH) = BAD
            sprinkler(0, 0, 0, 1) = 1
            sprinkler(0, 0, 0, 1) = 2
            sprinkler(0, 0, 0, 1) = 3
            turns(1, 4) = BAD
            sprinkler(0, 0, 0, 1) = 4
            turns(1, 4) = 2 // all five for 2 MINUTES: CELL 0 is just WET by 10
            turns(1, 5) = BAD
            """);
        edge("all five for the longest", """
            text("ggg/ggp;d0001,d0101,d0201,d1001,d1101") = 6
            rule(3, 80)
            rule(2, 80)
            turns(20, NONE) = 0
            turns(20, 0) = 40
            turns(20, 1) = 40
            turns(20, 2) = 40
            turns(20, 3) = 40
            turns(20, 4) = 40
            count(10) = 0
            """);
    }

    private static void turnsOfLikeOnes() {
        edge("of like ones the shortest together", """
            text("gg/pp;d0001,d0101,e0012") = 4
            rule(2, 1)
            turns(1, NONE) = 0
            turns(1, 0) = 0
            turns(1, 1) = 0
            turns(1, 2) = 1 // not 1 and 1 of the first two
            text("gg/pp;e0012,d0001,d0101") = 4
            turns(3, NONE) = 0
            turns(3, 0) = 3 // though 3 and 3 of the others come first
            turns(3, 1) = 0
            turns(3, 2) = 0
            """);
        edge("of these the first (rising by the first SPRINKLER's, then the next one's)", """
            text("gp/pp;d0001,d0001,d0001") = 4
            rule(2, 2)
            turns(1, 0) = 0
            turns(1, 1) = 0
            turns(1, 2) = 1
            rule(2, 6)
            turns(1, 0) = 0
            turns(1, 1) = 1
            turns(1, 2) = 2
            rule(2, 8)
            turns(1, 0) = 0
            turns(1, 1) = 2
            turns(1, 2) = 2
            rule(2, 12)
            turns(1, 0) = 2
            turns(1, 1) = 2
            turns(1, 2) = 2
            rule(2, 13)
            turns(1, 0) = 0
            turns(1, 1) = 0
            turns(1, 2) = 0
            turns(1, NONE) = 1
            """);
        edge("each alone: CLAY takes 5 of each", """
            text("cp/pp;r0005,r0005") = 4
            rule(2, 10)
            rule(3, 10)
            turns(1, NONE) = 0
            turns(1, 0) = 0
            turns(1, 1) = 2
            rule(2, 20)
            rule(3, 20)
            turns(1, NONE) = 0
            turns(1, 0) = 2
            turns(1, 1) = 2
            """);
        edge("who is ON now is nothing to TURNS; TAP neither", """
            text("gg/pp;d0001,d0101") = 4
            rule(1, 1)
            turn(1, 1)
            rule(2, 2)
            turns(1, NONE) = 0
            turns(1, 0) = 1
            turns(1, 1) = 1
            count(3) = 2
            """);
    }

    private static void toTheLastCell() {
        String path = "pppppppp/".repeat(7);
        edge("STAND on 64 CELLS, beside one that is ON", """
            text("PATH/ppppppgg;d7701,d0001") = 64
            rule(2, 2)
            turn(0, 1)
            stand(1, 1, 0) = 62
            stand(1, 1, 1) = 0
            """.replace("PATH/", path));
        edge("STAND on 64 CELLS: the last, where it wets least PATH", """
            text("PATH/pppppppg;e0012") = 64
            rule(2, 10)
            rule(3, 10)
            stand(0, 10, 0) = 63
            stand(0, 10, 1) = 3
            """.replace("PATH/", path));
        edge("STAND: on a CELL, not beyond the last", """
            text("gg/gg;d0001") = 4
            rule(2, 0)
            rule(3, 0)
            stand(0, 1, 0) = 0
            stand(0, 1, 1) = 1
            """);
        edge("TURNS on 64 CELLS, from how WET they are now", """
            text("PATH/pppppppg;d7701") = 64
            rule(2, 2)
            turns(1, 0) = 1
            turn(0, 1)
            minutes(1) = 0
            rule(2, 4)
            turns(1, NONE) = 0
            turns(1, 0) = 1
            rule(2, 6)
            turns(1, NONE) = 0
            turns(1, 0) = 2
            """.replace("PATH/", path));
    }

    private static void allWrong() {
        edge("fewest: all of 64 CELLS, whatever was found earlier", """
            text("pp/pg;d1101") = 4
            rule(2, 4)
            turns(1, 0) = 2
            stand(0, 2, 0) = 3
            lawn(8, 8) = 64
            sprinkler(0, 5, 0, 1) = 0
            rule(2, 10)
            stand(0, 40, 1) = 64 // MOST is 20: where it stands, it is too WET
            stand(0, 40, 0) = 0
            set(40, 1) = 64
            set(40, 0) = 0
            turns(1, NONE) = 64
            turns(1, 0) = 0
            wrongs(0, 0) = 64
            wrongs(99, 1) = 64
            """);
        edge("TURNS of the SPRINKLERS that there are, not of older ones", """
            text("gp/pp;d0001,d0001") = 4
            rule(2, 4)
            turns(1, NONE) = 0
            turns(1, 1) = 2
            text("gp/pp;r1101") = 4
            turns(1, NONE) = 1
            turns(1, 0) = 0
            turns(1, 1) = BAD
            lawn(2, 2) = 4
            turns(1, NONE) = 4
            set(1, 0) = 0
            """);
    }

    private static void inWind() {
        edge("by .. WIND as they are: each that is FORETOLD, by WIND 0, 1, 3", """
            text("pgp/ppp;d0001") = 6
            rule(2, 2)
            sheet(0, 2, 2)
            item(0, 2, 0, 1)
            item(0, 2, 1, 2)
            turn(0, 1)
            ahead(1, 1) = 0
            wrongs(1, 0) = 1
            wrongs(1, 1) = 1
            enough() = NONE
            stand(0, 1, 0) = 1
            stand(0, 1, 1) = 0
            set(1, 0) = 0
            set(1, 1) = 1
            turns(1, NONE) = 1
            turns(1, 0) = 0
            tins(0, 2, 0, 1, 1, 1) = NONE
            rule(0, 1) = 0
            ahead(1, 1) = 2
            wrongs(1, 0) = 0
            wrongs(1, 1) = 0
            enough() = 1
            stand(0, 1, 0) = 0
            stand(0, 1, 1) = 0
            set(1, 0) = 1
            set(1, 1) = 0
            turns(1, NONE) = 0
            turns(1, 0) = 1
            tins(0, 2, 0, 1, 1, 1) = 1
            rule(0, 3) = 1
            ahead(1, 1) = 0
            wrongs(1, 0) = 1
            wrongs(1, 1) = 1
            enough() = NONE
            stand(0, 1, 0) = 0
            stand(0, 1, 1) = 1
            set(1, 0) = 0
            set(1, 1) = 1
            turns(1, NONE) = 1
            turns(1, 0) = 0
            tins(0, 2, 0, 1, 1, 1) = NONE
            """);
    }
}
