/** The edges of what is done: minutes, sun, move, drift, what may be undone, THE DRAW (promises 12 to 17), images (24, 25). */
public final class DoneEdgesTest {
    private static void edge(String sentence, String run) {
        Edges.edge(sentence, run);
    }

    public static void main(String[] args) {
        minutes();
        lastMinute();
        move();
        eightSteps();
        stepsWrapAround();
        undone();
        undoneToTheLastCell();
        nothingToBeUndone();
        draw();
        drift();
        images();
        Due.end();
    }

    private static void minutes() {
        edge("Promise 12: n MINUTES (1 .. 60)", """
            sprinkler(1, 0, 0, 1) = 0
            turn(0, 1)
            minutes(0) = BAD
            minutes(61) = BAD
            minutes(-1) = BAD
            minutes(LOW) = BAD
            minutes(HIGH) = BAD
            count(4) = 0
            count(10) = 0
            minutes(1) = 20
            count(10) = 1
            minutes(60) = 20
            count(10) = 61
            count(4) = 61
            """);
        edge("Promise 12: how many CELLS are WRONG", """
            text("gp/pp;e0001") = 4
            turn(0, 1)
            minutes(9) = 1
            minutes(1) = 0
            minutes(10) = 0
            minutes(1) = 1
            """);
        edge("Promise 15: a DRIFT of n MINUTES (1 .. 60)", """
            drift(0) = BAD
            drift(61) = BAD
            drift(-1) = BAD
            drift(LOW) = BAD
            drift(HIGH) = BAD
            count(4) = 0
            seed(1) = 1
            drift(1) = 0
            count(4) = 1
            drift(60) = 0
            count(4) = 61
            """);
    }

    private static void lastMinute() {
        edge("Promise 12: FULL: the MINUTE would be above 9999", """
            minutes(60) x 166
            count(4) = 9960
            minutes(40) = FULL
            minutes(60) = FULL
            count(4) = 9960
            minutes(39) = 20
            count(4) = 9999
            minutes(1) = FULL
            count(4) = 9999
            count(12) = 8
            undo() = 7
            count(4) = 9998
            minutes(2) = FULL
            minutes(1) = 20
            minutes(1) = FULL
            """);
        edge("Promise 15: FULL: likewise", """
            minutes(60) x 166
            drift(40) = FULL
            drift(60) = FULL
            count(4) = 9960
            seed(1) = 1
            drift(39) = 0
            count(4) = 9999
            seed(7)
            drift(1) = FULL
            minutes(1) = FULL
            seed(7) = 7
            sun(1) = 0 // no MINUTE is needed for these
            sprinkler(0, 0, 0, 1) = 0
            move(0, 1) = 0
            count(12) = 1
            ahead(0, 99) = 0
            """);
        edge("a LAWN is at MINUTE 0 again", """
            minutes(60) x 166
            minutes(39)
            lawn(2, 2) = 4
            count(4) = 0
            minutes(60) = 4
            """);
    }

    private static void move() {
        edge("Promise 14: a SPRINKLER stands on a CELL: on which it stood. BAD", """
            move(0, 0) = BAD
            sprinkler(0, 3, 0, 1) = 0
            move(0, 0) = 3
            move(0, 19) = 0
            move(0, -1) = BAD
            move(0, 20) = BAD
            move(0, LOW) = BAD
            move(0, HIGH) = BAD
            move(-1, 0) = BAD
            move(1, 0) = BAD
            move(LOW, 0) = BAD
            move(HIGH, 0) = BAD
            of(0, 1) = 19
            count(12) = 2
            """);
        edge("Promise 14: several may stand on a CELL; one may stay", """
            sprinkler(0, 3, 0, 1) = 0
            sprinkler(0, 4, 0, 1) = 1
            turn(0, 1)
            turn(1, 1)
            move(0, 4) = 3
            move(0, 4) = 4
            cell(4, 2) = 2
            cell(3, 2) = 0
            count(3) = 3
            """);
    }

    private static void eightSteps() {
        edge("8 are known, older ones lost: 7, 8, 9 MOVES", """
            sprinkler(0, 0, 0, 1) = 0
            undo() = NONE
            move(0, 1)
            move(0, 2)
            move(0, 3)
            move(0, 4)
            move(0, 5)
            move(0, 6)
            count(12) = 6
            move(0, 7)
            count(12) = 7
            move(0, 8)
            count(12) = 8
            move(0, 9) = 8
            count(12) = 8
            undo() = 7
            of(0, 1) = 8
            undo() x 6 = 1
            of(0, 1) = 2
            undo() = 0
            of(0, 1) = 1 // the first is lost
            undo() = NONE
            of(0, 1) = 1
            count(12) = 0
            """);
        edge("8 are known: each MINUTE is one", """
            sprinkler(1, 0, 0, 1) = 0
            turn(0, 1)
            minutes(7)
            count(12) = 7
            minutes(1)
            count(12) = 8
            minutes(60)
            count(12) = 8
            undo() x 8 = 0
            count(4) = 60
            cell(0, 1) = 60
            undo() = NONE
            """);
        edge("8 are known: each MINUTE of a DRIFT is one", """
            drift(7)
            count(12) = 7
            drift(1)
            count(12) = 8
            drift(1)
            count(12) = 8
            undo() x 8 = 0
            count(4) = 1
            seed(0) = 1103527590
            undo() = NONE
            """);
        edge("8 are known: each SUN is one", """
            sprinkler(0, 0, 0, 9) = 0
            turn(0, 1)
            minutes(2)
            sun(1) x 7
            count(12) = 8
            sun(1) = 10
            count(12) = 8
            undo() x 8 = 0
            cell(0, 1) = 18
            count(4) = 2 // the MINUTES are lost
            undo() = NONE
            """);
    }

    private static void stepsWrapAround() {
        edge("8 are known, older ones lost: behind some that were UNDONE, too", """
            sprinkler(0, 0, 0, 1) = 0
            move(0, 1)
            move(0, 2)
            move(0, 3)
            move(0, 4)
            move(0, 5)
            move(0, 6)
            undo() x 5 = 1
            of(0, 1) = 1
            move(0, 12)
            move(0, 13)
            move(0, 14)
            move(0, 15)
            move(0, 16)
            move(0, 17)
            move(0, 18)
            count(12) = 8
            move(0, 19) = 18
            count(12) = 8
            undo() x 7 = 1
            of(0, 1) = 12
            undo() = 0
            of(0, 1) = 1
            undo() = NONE
            move(0, 5) = 1
            undo() = 0
            of(0, 1) = 1
            """);
        edge("what is UNDONE leaves no step of its own", """
            minutes(2)
            undo() = 1
            undo() = 0
            undo() = NONE
            count(12) = 0
            """);
        edge("a long row of steps, UNDONE and made again", """
            sprinkler(1, 0, 0, 1) = 0
            turn(0, 1)
            minutes(20)
            undo() x 8 = 0
            cell(0, 1) = 12
            minutes(5)
            undo() x 2 = 3
            cell(0, 1) = 15
            minutes(9)
            count(12) = 8
            undo() x 8 = 0
            cell(0, 1) = 16
            count(4) = 16
            undo() = NONE
            """);
    }

    private static void undone() {
        edge("how WET CELLS are, on which CELLS SPRINKLERS stand, RUNOFF, the MINUTE, THE DRAW are as ahead of it", """
            text("pg/pg;d0009,r0101") = 4
            turn(0, 1)
            seed(5) = 1
            minutes(1) = 2
            seed(6) = 5
            move(1, 3) = 1
            seed(7) = 6
            sun(1) = 0
            seed(8) = 7
            drift(1)
            undo() = 3
            counts() = 2 2 2 1 1 0 2 10 20 6 0 2 3
            seed(9) = 8
            undo() = 2
            cells(1) = 1 0 1 0
            of(1, 1) = 3
            seed(9) = 7
            undo() = 1
            of(1, 1) = 1
            seed(9) = 6
            undo() = 0
            counts() = 2 2 2 1 0 0 2 10 20 0 0 2 0
            seed(9) = 5
            """);
        edge("whatever was told since", """
            text("gg/gg;d0001,d0101") = 4
            minutes(1)
            soil(0, 2) = 0
            turn(1, 1) = 1
            rule(0, 1)
            rule(1, 3)
            rule(2, 4)
            rule(3, 5)
            seed(50) = 1
            undo() = 0
            counts() = 2 2 2 2 0 1 3 4 5 0 0 3 0
            cells(0) = 2 0 0 0
            seed(1) = 1
            """);
        edge("Promise 16: NONE: none is known", """
            undo() = NONE
            counts() = 4 5 0 0 0 0 2 10 20 0 0 20 0
            soil(0, 1)
            rule(0, 1)
            seed(3)
            image()
            type(103)
            ahead(0, 9)
            undo() = NONE
            """);
        edge("a SUN on a dry LAWN, a MOVE to where it stands, are steps, too", """
            sprinkler(0, 0, 0, 1) = 0
            sun(1) = 0
            move(0, 0) = 0
            count(12) = 2
            undo() = 1
            undo() = 0
            """);
    }

    private static void undoneToTheLastCell() {
        edge("how WET CELLS are, on which CELLS SPRINKLERS stand: to the last of 64, of 5", """
            lawn(8, 8) = 64
            sprinkler(3, 0, 0, 1) = 0
            sprinkler(3, 1, 0, 1) = 1
            sprinkler(3, 2, 0, 1) = 2
            sprinkler(3, 3, 0, 1) = 3
            sprinkler(3, 63, 0, 1) = 4
            of(4, 5) = 2
            turn(4, 1) = 1
            minutes(2) = 64
            sun(1) = 3
            move(4, 62) = 63
            move(3, 61) = 3
            undo() = 4
            of(3, 1) = 3
            of(4, 1) = 62
            undo() = 3
            of(4, 1) = 63
            cell(63, 1) = 3
            undo() = 2
            cell(63, 1) = 4
            undo() = 1
            cell(63, 1) = 2
            undo() = 0
            cell(63, 1) = 0
            of(0, 1) = 0
            of(1, 1) = 1
            of(2, 1) = 2
            of(3, 1) = 3
            of(4, 1) = 63
            """);
    }

    private static void nothingToBeUndone() {
        edge("a GARDEN leaves nothing to be UNDONE", """
            minutes(9)
            text("gg/gg;r0001") = 4
            count(12) = 0
            undo() = NONE
            """);
        edge("a LAWN leaves nothing to be UNDONE", """
            minutes(9)
            lawn(4, 5) = 20
            count(12) = 0
            undo() = NONE
            """);
        edge("a new SPRINKLER leaves nothing to be UNDONE", """
            minutes(9)
            sprinkler(0, 0, 0, 1) = 0
            count(12) = 0
            undo() = NONE
            count(4) = 9
            """);
        edge("those that are refused leave all to be UNDONE", """
            text("gg/gg;r0001,r0001,r0001,r0001,r0001") = 4
            minutes(9)
            text("gg/gg;r0000") = -30
            count(12) = 8
            lawn(1, 2) = BAD
            count(12) = 8
            sprinkler(0, 0, 0, 1) = FULL
            sprinkler(0, 4, 0, 1) = BAD
            count(12) = 8
            undo() = 7
            count(4) = 8
            """);
        edge("what is told, asked leaves all to be UNDONE", """
            text("gg/gg;r0001") = 4
            minutes(2)
            turn(0, 1)
            soil(0, 1)
            rule(1, 1)
            seed(4)
            type(32)
            enough()
            stand(0, 1, 0)
            set(1, 0)
            turns(1, 0)
            image()
            sheet(0, 0, 4)
            film(0, 4, 0, 0, 0)
            tins(0, 0, 0, 1, 1, 0)
            drop(0)
            count(12) = 2
            undo() = 1
            """);
    }

    private static void draw() {
        edge("THE DRAW is a number of 31 bits (1 at first); seed: BAD: below 0", """
            seed(0) = 1
            seed(HIGH) = 0
            seed(-1) = BAD
            seed(LOW) = BAD
            seed(0) = HIGH
            """);
        edge("it becomes the lowest 31 bits of itself times 1103515245 and 12345 more: from 0, 1, the highest", """
            seed(0)
            drift(1)
            seed(1) = 12345
            drift(1)
            seed(HIGH) = 1103527590
            drift(1)
            seed(1) = 1043980748
            drift(2)
            seed(1) = 377401575
            drift(12)
            seed(1) = 836760821
            """);
    }

    private static void drift() {
        // behind 1 the winds are 2 2 1 3 3 3 2 3 0
        edge("it by 65536, left over by 4, is the WIND of this MINUTE alone", """
            lawn(2, 4) = 8
            sprinkler(3, 0, 0, 1) = 0
            turn(0, 1)
            rule(0, 1)
            drift(1)
            cells(1) = 0 0 2 0  0 0 0 0
            drift(1)
            cells(1) = 0 0 4 0  0 0 0 0
            drift(1)
            cells(1) = 0 2 4 0  0 0 0 0
            drift(3)
            cells(1) = 0 2 4 6  0 0 0 0
            drift(3)
            cells(1) = 2 2 6 8  0 0 0 0
            count(5) = 1
            minutes(1)
            cells(1) = 2 4 6 8  0 0 0 0
            seed(0) = 1062517886
            """);
        edge("a WIND of 3 in a DRIFT: beyond the last COLUMN it is lost", """
            lawn(2, 3) = 6
            sprinkler(3, 0, 0, 1) = 0
            turn(0, 1)
            seed(662824084)
            drift(3) = 0
            cells(1) = 0 0 0  0 0 0
            count(4) = 3
            """);
        edge("Promise 15: RUNOFF, all that there is", """
            text("pg/pg;d0009") = 4
            turn(0, 1)
            minutes(1)
            seed(0)
            drift(1) = 12
            drift(2) = 24
            """);
    }

    private static void images() {
        edge("Promise 25: NONE: there is none", """
            restore() = NONE
            minutes(2)
            restore() = NONE
            count(4) = 2
            image() = 1
            restore() = 1
            """);
        edge("Promise 24: the latest IMAGE is kept", """
            minutes(1)
            image() = 1
            minutes(1)
            image() = 1
            minutes(1)
            restore() = 1
            count(4) = 2
            minutes(5)
            restore() = 1
            count(4) = 2
            """);
        edge("Promise 25: all is as it was then: the least LAWN behind the greatest, the greatest behind the least", """
            lawn(8, 8) = 64
            sprinkler(1, 63, 4, 9) = 0
            soil(62, 2)
            turn(0, 1)
            minutes(1)
            image() = 1
            lawn(2, 2) = 4
            restore() = 1
            counts() = 8 8 1 1 1 0 2 10 20 3 97 63 1 // of 100 the PATH takes 1 of its 4
            cell(62, 0) = 2
            cell(63, 1) = 4
            lawn(2, 2) = 4
            image() = 1
            lawn(8, 8) = 64
            restore() = 1
            counts() = 2 2 0 0 0 0 2 10 20 0 0 4 0
            lawn(8, 8) = 64
            cell(63, 1) = 0
            cell(62, 0) = 0
            """);
        edge("Promise 25: what may be UNDONE is as it was then: none, 8", """
            image() = 1
            minutes(9)
            restore() = 1
            count(12) = 0
            undo() = NONE
            minutes(9)
            image() = 1
            undo() x 8 = 0
            sun(1)
            restore() = 1
            count(12) = 8
            undo() x 8 = 0
            count(4) = 1
            undo() = NONE
            restore() = 1
            minutes(1)
            count(12) = 8
            undo() x 8 = 0
            count(4) = 2
            """);
        edge("Promise 25: what may be UNDONE is as it was then, whatever was done since", """
            sprinkler(0, 0, 0, 1) = 0
            move(0, 1)
            move(0, 2)
            move(0, 3)
            move(0, 4)
            move(0, 5)
            move(0, 6)
            move(0, 7)
            move(0, 8)
            image() = 1
            move(0, 11)
            move(0, 12)
            move(0, 13)
            move(0, 14)
            move(0, 15)
            move(0, 16)
            move(0, 17)
            move(0, 18)
            move(0, 19)
            restore() = 1
            of(0, 1) = 8
            undo() = 7
            of(0, 1) = 7
            undo() = 6
            of(0, 1) = 6
            undo() = 5
            of(0, 1) = 5
            undo() = 4
            of(0, 1) = 4
            undo() = 3
            of(0, 1) = 3
            undo() = 2
            of(0, 1) = 2
            undo() = 1
            of(0, 1) = 1
            undo() = 0
            of(0, 1) = 0
            undo() = NONE
            """);
        edge("Promise 25: the last of 64 CELLS is as it was then", """
            lawn(8, 8) = 64
            soil(63, 2) = 0
            sprinkler(3, 63, 0, 1) = 0
            turn(0, 1)
            minutes(3)
            image() = 1
            soil(63, 1) = 2
            sun(2)
            restore() = 1
            cell(63, 0) = 2
            cell(63, 1) = 3
            count(9) = 3
            """);
        edge("Promise 25: rules and THE DRAW at their least and most", """
            rule(0, 3)
            rule(1, 5)
            rule(2, 999)
            rule(3, 0)
            seed(HIGH)
            image() = 1
            rule(0, 0)
            rule(1, 1)
            rule(2, 0)
            rule(3, 999)
            seed(0)
            restore() = 1
            counts() = 4 5 0 0 0 3 5 999 0 0 0 20 0
            seed(1) = HIGH
            """);
        edge("Promise 24: all but SHEETS, THE TAPE", """
            typed("gg/gg") = 5
            sheet(0, 1, 3) = 3
            image() = 1
            typed(";r0001") = 11
            sheet(0, 2, 5) = 5
            restore() = 1
            drop(0) = 5
            drop(1) = NULL
            garden() = 4
            """);
    }
}
