/** Rows of calls by which a run begins. */
final class Given {
    /** One TUBE, every digit as small as can be. */
    static final String ONE = "b0020000000;t00200";
    /** Six TUBES, every digit of the last three as large as can be. */
    static final String SIX = "b0020000000;t00200;s00200;o00200;t79499;s79499;o79499";

    private Given() {
    }

    /** A SHEET with the numbers in its cells. */
    static String row(int sheet, int lane, int... cells) {
        StringBuilder rows = new StringBuilder("sheet(" + sheet + ", " + lane + ", " + cells.length + ")\n");
        for (int i = 0; i < cells.length; i++) {
            rows.append("put(" + sheet + ", " + i + ", " + cells[i] + ")\n");
        }
        return rows.toString();
    }

    /** A SHEET with the codes of a TEXT. */
    static String text(int sheet, int lane, String text) {
        return row(sheet, lane, Coats.codes(text));
    }

    /** A SHOP by a TEXT, and no SHEET left. */
    static String shop(String text) {
        return text(3, 0, text) + "shop(3, 0, 0, " + text.length() + ")\nlose(3)\n";
    }

    static String five() {
        return shop(Coats.FIVE);
    }

    /** SHEETS 0 bytes 0 1 2, 1 shorts 4 3, 2 ints 0 5 -1 3; SHEET 3 has nothing. */
    static String sheets() {
        return row(0, 0, 0, 1, 2) + row(1, 1, 4, 3) + row(2, 2, 0, 5, -1, 3);
    }

    /** A SHOP, and nothing in it as at first, so that whatever a refused call changes is seen. */
    static String busy() {
        return five() + sheets() + """
            remember(1, 2)
            near(3)
            stock(1, 2)
            reading(0, true)
            reading(4, false)
            tell(2)
            """;
    }
}
