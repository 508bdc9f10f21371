/** Promises 24 to 28 at their boundaries: sheet, lose, put, cell, copy. */
final class SheetSentences {
    private final Sentences s;

    SheetSentences(Sentences s) {
        this.s = s;
    }

    void all() {
        sheet();
        rows();
        lose();
        put();
        cuts();
        cellRefusals();
        cellFaults();
        copyRefusals();
        copyFaults();
        copies();
    }

    private void sheet() {
        s.of(24, "UNKNOWN;").run(Given.busy(), """
            sheet(-1, 0, 1) = UNKNOWN
            sheet(4, 0, 1) = UNKNOWN
            sheet(MIN, 3, 61) = UNKNOWN
            sheet(MAX, -1, -1) = UNKNOWN
            sheet(0, 0, 1) = 1
            sheet(3, 0, 1) = 1
            """);
        s.of(24, "OUTSIDE: lane").run(Given.busy(), """
            sheet(0, -1, 1) = OUTSIDE
            sheet(0, 3, 1) = OUTSIDE
            sheet(0, MIN, -1) = OUTSIDE
            sheet(0, MAX, 61) = OUTSIDE
            sheet(0, 0, 1) = 1
            sheet(0, 1, 1) = 1
            sheet(0, 2, 1) = 1
            """);
        s.of(24, ", n above 60").run(Given.busy(), """
            sheet(0, 0, 61) = OUTSIDE
            sheet(1, 1, 62) = OUTSIDE
            sheet(2, 2, MAX) = OUTSIDE
            sheet(0, 0, 60) = 1
            """);
        s.of(24, "SIZE.").run(Given.busy(), """
            sheet(0, 0, -1) = SIZE
            sheet(3, 2, -1) = SIZE
            sheet(1, 1, MIN) = SIZE
            sheet(0, 0, 0) = 1
            """);
    }

    private void rows() {
        s.of(24, "SHEETS 0 .. 3 have nothing (at first)").run("""
            cell(0, 0, 0) = LOST NULL
            cell(1, 0, 1) = LOST NULL
            cell(2, 0, 2) = LOST NULL
            cell(3, 0, 0) = LOST NULL
            cell(4, 0, 0) = LOST
            """);
        s.of(24, "a row of 0 .. 60 numbers");
        for (int lane = 0; lane <= 2; lane++) {
            s.run("sheet(0, " + lane + ", 0) = 1\n cell(0, 0, " + lane + ") = LOST INDEX\n put(0, 0, 1) = INDEX");
            s.run("sheet(0, " + lane + ", 60) = 1\n put(0, 59, 1) = 1\n put(0, 60, 1) = INDEX");
        }
        s.of(24, "numbers (0 at first) of a LANE: 0 bytes, 1 shorts, 2 ints");
        for (int lane = 0; lane <= 2; lane++) {
            StringBuilder zeros = new StringBuilder();
            for (int i = 0; i < 60; i++) {
                zeros.append("cell(3, " + i + ", " + lane + ") = 0\n");
            }
            s.run("sheet(3, " + lane + ", 60) = 1\n", zeros.toString(), "cell(3, 60, " + lane + ") = LOST INDEX");
            // A new row has nothing of the one before it.
            s.run("sheet(3, " + lane + ", 60)\n put(3, 0, 7)\n put(3, 59, 7)\n sheet(3, " + lane + ", 1)\n sheet(3, "
                    + lane + ", 60)\n cell(3, 0, " + lane + ") = 0\n cell(3, 59, " + lane + ") = 0");
        }
    }

    private void lose() {
        s.of(25, "0: it had nothing.").run(Given.busy(), """
            lose(3) = 0
            lose(0) = 1
            lose(0) = 0
            sheet(0, 0, 0)
            lose(0) = 1
            put(0, 0, 0) = NULL
            """).run("lose(0) = 0");
        s.of(25, "UNKNOWN.").run(Given.busy(), """
            lose(-1) = UNKNOWN
            lose(4) = UNKNOWN
            lose(MIN) = UNKNOWN
            lose(MAX) = UNKNOWN
            """);
        s.of(25, "A SHEET has nothing").run(Given.busy(), """
            lose(2) = 1
            cell(2, 0, 2) = LOST NULL
            cell(2, 0, 0) = LOST NULL
            sheet(2, 2, 4)
            cell(2, 1, 2) = 0
            """);
    }

    private void put() {
        s.of(26, "UNKNOWN;").run(Given.busy(), """
            put(-1, 0, 9) = UNKNOWN
            put(4, 0, 9) = UNKNOWN
            put(MIN, -1, 9) = UNKNOWN
            put(MAX, 99, 9) = UNKNOWN
            """);
        s.of(26, "NULL;").run(Given.busy(), """
            put(3, 0, 9) = NULL
            put(3, -1, 9) = NULL
            put(3, MAX, 9) = NULL
            """);
        s.of(26, "INDEX.").run(Given.busy(), """
            put(0, -1, 9) = INDEX
            put(0, 3, 9) = INDEX
            put(0, MIN, 9) = INDEX
            put(0, MAX, 9) = INDEX
            put(0, 0, 9) = 1
            put(0, 2, 9) = 1
            cell(0, 0, 0) = 9
            cell(0, 1, 0) = 1
            cell(0, 2, 0) = 9
            """).run("""
            sheet(0, 0, 60)
            put(0, 59, 9) = 1
            put(0, 60, 9) = INDEX
            sheet(0, 0, 0)
            put(0, 0, 9) = INDEX
            """);
    }

    private void cuts() {
        s.of(26, "what comes to a cell of it is cut to its LANE.");
        int[] numbers = {127, 128, 255, 256, -128, -129, 32767, 32768, 65535, 65536, -32768, -32769,
            Integer.MAX_VALUE, Integer.MIN_VALUE};
        for (int v : numbers) {
            s.run("sheet(0, 0, 1)\n put(0, 0, " + v + ") = 1\n cell(0, 0, 0) = " + (byte) v);
            s.run("sheet(0, 1, 1)\n put(0, 0, " + v + ") = 1\n cell(0, 0, 1) = " + (short) v);
            s.run("sheet(0, 2, 1)\n put(0, 0, " + v + ") = 1\n cell(0, 0, 2) = " + v);
        }
    }

    private void cellRefusals() {
        s.of(27, "LOST: UNKNOWN").run(Given.busy(), """
            cell(-1, 0, 0) = LOST
            cell(4, 0, 0) = LOST
            cell(MIN, 99, 3) = LOST
            cell(MAX, -1, -1) = LOST
            """);
        s.of(27, "OUTSIDE: lane").run(Given.busy(), """
            cell(0, 0, -1) = LOST
            cell(0, 0, 3) = LOST
            cell(3, 0, MIN) = LOST
            cell(0, 99, MAX) = LOST
            cell(0, 0, 0) = 0
            cell(1, 0, 1) = 4
            cell(2, 1, 2) = 5
            """);
    }

    private void cellFaults() {
        s.of(27, "FAULTS CAST").run(Given.busy(), """
            cell(0, 0, 1) = LOST CAST
            cell(0, 0, 2) = LOST CAST
            cell(1, 0, 0) = LOST CAST
            cell(2, -1, 0) = LOST CAST
            cell(2, 99, 1) = LOST CAST
            """);
        s.of(27, "(nothing is no CAST)").run(Given.busy(), """
            lose(0)
            cell(0, 0, 0) = LOST NULL
            cell(0, 0, 1) = LOST NULL
            cell(0, 0, 2) = LOST NULL
            """);
        s.of(27, ", NULL").run(Given.busy(), """
            cell(3, 0, 0) = LOST NULL
            cell(3, -1, 1) = LOST NULL
            cell(3, MAX, 2) = LOST NULL
            """);
        s.of(27, ", INDEX.").run(Given.busy(), """
            cell(0, -1, 0) = LOST INDEX
            cell(0, 3, 0) = LOST INDEX
            cell(0, MIN, 0) = LOST INDEX
            cell(0, MAX, 0) = LOST INDEX
            cell(0, 2, 0) = 2
            sheet(0, 0, 2)
            cell(0, 2, 0) = LOST INDEX
            """);
        s.of(27, "(LOST, where a long is answered, as for refusals)").run(Given.busy(), """
            cell(0, 3, 0) = LOST INDEX
            fault() = 3
            cell(0, 0, 3) = LOST
            fault() = 0
            tin(10, 0) = LOST
            """);
    }

    /** SHEET 3 has ints 9 9 9, SHEET 2 ints 0 5 -1 3. */
    private static String twoOfInts() {
        return Given.busy() + Given.row(3, 2, 9, 9, 9);
    }

    private void copyRefusals() {
        s.of(28, "UNKNOWN;").run(twoOfInts(), """
            copy(-1, 0, 2, 0, 1) = UNKNOWN
            copy(4, 0, 2, 0, 1) = UNKNOWN
            copy(2, 0, -1, 0, 1) = UNKNOWN
            copy(2, 0, 4, 0, 1) = UNKNOWN
            copy(MIN, -1, 2, -1, -1) = UNKNOWN
            copy(2, -1, MAX, -1, -1) = UNKNOWN
            lose(0)
            copy(0, 0, 4, 0, 1) = UNKNOWN
            copy(4, 0, 0, 0, 1) = UNKNOWN
            """);
    }

    private void copyFaults() {
        s.of(28, "FAULTS NULL (the first, the other)").run(Given.busy(), """
            copy(3, 0, 2, 0, 1) = NULL
            copy(2, 0, 3, 0, 1) = NULL
            copy(3, 0, 3, 0, 0) = NULL
            copy(3, -1, 0, -1, -1) = NULL
            copy(0, MAX, 3, MAX, MAX) = NULL
            """);
        s.of(28, "CAST (unlike LANES)").run(Given.busy(), """
            copy(0, 0, 1, 0, 1) = CAST
            copy(1, 0, 2, 0, 0) = CAST
            copy(2, 0, 0, 0, 1) = CAST
            copy(0, -1, 2, 0, -1) = CAST
            copy(2, 0, 1, 99, 1) = CAST
            """);
        s.of(28, "INDEX: i, j, n below 0 or beyond.").run(twoOfInts(), """
            copy(2, -1, 3, 0, 1) = INDEX
            copy(2, 0, 3, -1, 1) = INDEX
            copy(2, 0, 3, 0, -1) = INDEX
            copy(2, 4, 3, 0, 1) = INDEX
            copy(2, 0, 3, 3, 1) = INDEX
            copy(2, 0, 3, 0, 4) = INDEX
            copy(3, 0, 2, 0, 4) = INDEX
            copy(2, 2, 3, 0, 3) = INDEX
            copy(2, 0, 3, 2, 2) = INDEX
            """).run(twoOfInts(), """
            copy(2, MAX, 3, 0, MAX) = INDEX
            copy(2, 0, 3, MAX, MAX) = INDEX
            copy(2, 1, 3, 1, MAX) = INDEX
            copy(2, MIN, 3, 0, 1) = INDEX
            copy(2, 0, 3, MIN, 1) = INDEX
            copy(2, 0, 3, 0, MIN) = INDEX
            copy(2, 1, 3, 0, 3) = 3
            copy(3, 0, 2, 1, 3) = 3
            """);
        // A SHEET may have had a longer row: what stood behind the new one's end is not there.
        s.run(twoOfInts(), "sheet(3, 2, 2)\n copy(2, 0, 3, 0, 3) = INDEX\n copy(3, 0, 2, 0, 3) = INDEX");
        s.of(28, "(of cells from i on also where i is not 0 .. how many there are, if none of them is taken, too)");
        s.run(twoOfInts(), """
            copy(2, -1, 3, 0, 0) = INDEX
            copy(2, 0, 3, -1, 0) = INDEX
            copy(2, 5, 3, 0, 0) = INDEX
            copy(2, 0, 3, 4, 0) = INDEX
            copy(2, 4, 3, 3, 0) = 0
            copy(2, 0, 3, 0, 0) = 0
            """);
        s.of(28, "Of a call the first that is come to, in the order told").run(Given.busy(), """
            copy(3, -1, 0, -1, -1) = NULL
            copy(0, -1, 1, -1, -1) = CAST
            copy(0, -1, 0, -1, -1) = INDEX
            """);
    }

    private void copies() {
        s.of(28, "(perhaps the same) from j on, as they were").run(Given.row(2, 2, 1, 2, 3, 4), """
            copy(2, 0, 2, 1, 3) = 3
            cell(2, 0, 2) = 1
            cell(2, 1, 2) = 1
            cell(2, 2, 2) = 2
            cell(2, 3, 2) = 3
            """).run(Given.row(2, 2, 1, 2, 3, 4), """
            copy(2, 1, 2, 0, 3) = 3
            cell(2, 0, 2) = 2
            cell(2, 1, 2) = 3
            cell(2, 2, 2) = 4
            cell(2, 3, 2) = 4
            copy(2, 0, 2, 0, 4) = 4
            cell(2, 3, 2) = 4
            """).run(Given.row(0, 0, 1, 2), Given.row(3, 0, 7, 8), """
            copy(0, 0, 3, 0, 2) = 2
            cell(3, 0, 0) = 1
            cell(3, 1, 0) = 2
            cell(0, 0, 0) = 1
            """);
    }
}
