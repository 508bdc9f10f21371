/** Promises 29 to 34 at their boundaries: tell, rattle, as, trace, fault, many; and what holds for every call. */
final class PartSentences {
    private final Sentences s;

    PartSentences(Sentences s) {
        this.s = s;
    }

    void all() {
        tell();
        rattle();
        as();
        trace();
        faults();
        refusals();
        many();
    }

    private static int traced(int before, int... bodies) {
        int trace = before;
        for (int body : bodies) {
            trace = 31 * trace + body;
        }
        return trace;
    }

    private void tell() {
        s.of(29, "UNKNOWN.").run(Given.busy(), """
            tell(-1) = UNKNOWN
            tell(5) = UNKNOWN
            tell(MIN) = UNKNOWN
            tell(MAX) = UNKNOWN
            tell(4) = 103
            """).run("tell(0) = UNKNOWN\n trace() = 0");
        s.of(29, "OLD (3): what SHADED's gives, and what TUBE's gives (SHADED's left out).");
        s.run(Given.shop("b3540000000;t35490;t35499;s35490;s35499;o35490;o35499"), """
            tell(0) = 0
            tell(1) = 9
            tell(2) = 100
            tell(3) = 109
            tell(4) = 100
            tell(5) = 118
            """, "trace() = " + traced(0, 1, 1, 2, 1, 2, 1, 3, 2, 1, 1, 3, 2, 1, 1));
    }

    private void rattle() {
        s.of(30, "UNKNOWN.").run(Given.busy(), """
            rattle(-1) = UNKNOWN
            rattle(5) = UNKNOWN
            rattle(MIN) = UNKNOWN
            rattle(MAX) = UNKNOWN
            """).run("rattle(0) = UNKNOWN\n trace() = 0");
        s.of(30, "RATTLED by a lent body (4): its number; OLD ones have their own (5): 50.");
        s.run(Given.shop("b3540000000;t35490;s35490;o35490;t35490;s35490;t35490"), """
            rattle(0) = 0
            rattle(1) = 1
            rattle(2) = 50
            rattle(5) = 5
            """, "trace() = " + traced(0, 4, 4, 5, 4));
    }

    private void as() {
        s.of(31, "UNKNOWN;").run(Given.busy(), """
            as(-1, 0) = UNKNOWN
            as(5, 0) = UNKNOWN
            as(MIN, 3) = UNKNOWN
            as(MAX, -1) = UNKNOWN
            """).run("as(0, 0) = UNKNOWN\n as(0, 3) = UNKNOWN");
        s.of(31, "OUTSIDE;").run(Given.busy(), """
            as(0, -1) = OUTSIDE
            as(2, 3) = OUTSIDE
            as(0, MIN) = OUTSIDE
            as(0, MAX) = OUTSIDE
            """);
        s.of(31, "CAST: it is none (each is a TUBE, too; an OLD one is SHADED).").run(Given.busy(), """
            as(0, 0) = 1
            as(0, 1) = CAST
            as(0, 2) = CAST
            as(1, 0) = 1
            as(1, 1) = 1
            as(1, 2) = CAST
            as(2, 0) = 1
            as(2, 1) = 1
            as(2, 2) = 1
            """);
    }

    private void trace() {
        s.of(32, "TRACE (an int that wraps, 0 at first, becomes 31 times it and the number) as they begin");
        StringBuilder rows = new StringBuilder("trace() = 0\n");
        int due = 0;
        for (int i = 0; i < 12; i++) {
            due = traced(due, 3, 2, 1, 1, 5);
            rows.append("tell(0)\n rattle(0)\n trace() = ").append(due).append('\n');
        }
        s.run("trace() = 0").run(Given.shop("b3540000000;o35499"), rows.toString());
        // A SHOP is made anew, what was left in TRACE is not.
        s.run(Given.busy(), Given.shop(Given.ONE), "trace() = " + traced(0, 3, 2, 1, 1));
    }

    private void faults() {
        s.of(33, "FAULTS are the machine's: 1 NULL (there is nothing), 2 CAST (it is of another lane, kind), 3 INDEX");
        s.run(Given.busy(), """
            put(3, 0, 0) = NULL
            fault() = 1
            search(0, 1, 0, 1, 0) = CAST
            fault() = 2
            as(0, 1) = CAST
            fault() = 2
            sieve(0, 0, 4, 0, 0) = INDEX
            fault() = 3
            """);
        s.of(33, "4 SIZE (a length below 0)").run(Given.busy(), """
            sheet(0, 0, -1) = SIZE
            fault() = 4
            shop(0, 0, 0, -1) = SIZE
            fault() = 4
            sheet(0, 0, 0) = 1
            fault() = 0
            """);
        s.of(33, "it answers -10 less it");
        ButtonMatch x = new ButtonMatch();
        s.due("NULL", x.put(0, 0, 0), -11);
        s.due("SIZE", x.sheet(0, 0, -1), -14);
        x.sheet(0, 0, 1);
        s.due("CAST", x.shop(0, 1, 0, 1), -12);
        s.due("INDEX", x.put(0, 1, 0), -13);
        s.of(33, "and changes nothing; fault() tells it.").run(Given.busy(), """
            sheet(2, 0, -1) = SIZE
            fault() = 4
            copy(2, 1, 2, 0, 4) = INDEX
            fault() = 3
            cell(2, 0, 2) = 0
            fault() = 0
            cell(2, 3, 2) = 3
            """);
        s.of(33, "The FAULT of the latest call that names one").run(Given.busy(), "copy(0, 0, 1, 0, 1) = CAST\n" + """
            wanted(0)
            seen(9)
            ofTube(9, 0)
            remember(4, 0)
            near(21)
            stock(9, 0)
            far(9)
            quick(-2)
            signs(3)
            sew(9, 0)
            set(0)
            tin(10, 0)
            half()
            reading(9, true)
            back(9)
            memories(2)
            kinds(9)
            colours(9)
            nears()
            lose(9)
            lose(3)
            tell(9)
            rattle(9)
            trace()
            fault()
            many(4)
            fault() = 2
            """);
        s.of(33, "(0 ahead of any).").run("fault() = 0").run("lose(0) = 0\n fault() = 0");
        s.of(33, ": 0: it came to none");
        noFault("shop(3, 0, 0, 18) = 1", "shop(3, 0, 0, 17) = -117", "search(0, 0, 0, 1, 0) = 1",
                "sieve(0, 0, 0, 1, 0) = 5", "sheet(3, 0, 0) = 1", "put(0, 0, 1) = 1", "cell(0, 0, 0) = 0",
                "copy(0, 0, 0, 1, 1) = 1", "as(0, 0) = 1");
        s.of(33, "or was refused");
        noFault("shop(4, 0, 0, 18) = UNKNOWN", "shop(3, 3, 0, 18) = OUTSIDE", "search(4, 0, 0, 1, 0) = UNKNOWN",
                "search(0, 0, 0, 21, 0) = OUTSIDE", "search(2, 2, 1, 1, 0) = UNKNOWN", "sieve(4, 0, 0, 1, 0) = UNKNOWN",
                "sieve(0, 0, 0, 4, 0) = OUTSIDE", "sieve(2, 2, 1, 1, 0) = OUTSIDE", "sheet(4, 0, 0) = UNKNOWN",
                "sheet(0, 0, 61) = OUTSIDE", "put(4, 0, 1) = UNKNOWN", "cell(4, 0, 0) = LOST", "cell(0, 0, 3) = LOST",
                "copy(4, 0, 0, 0, 1) = UNKNOWN", "as(9, 0) = UNKNOWN", "as(0, 3) = OUTSIDE");
        s.run(Given.sheets(), "sheet(0, 0, -1)\n search(0, 0, 0, 1, 0) = STATE\n fault() = 0");
        s.run(Given.sheets(), "sheet(0, 0, -1)\n sieve(0, 0, 0, 1, 0) = STATE\n fault() = 0");
    }

    /** Each row alone, behind a FAULT. */
    private void noFault(String... rows) {
        for (String row : rows) {
            s.run(Given.busy(), Given.text(3, 0, Given.ONE), "sheet(0, 0, -1)", row, "fault() = 0");
        }
    }

    private void refusals() {
        s.of(33, "REFUSALS, in the order in which a call's line tells them: UNKNOWN (there is no such TUBE, PLACE, "
                + "SHEET, place of a row), OUTSIDE (another number is not as told), STATE (as told), FULL");
        s.run(Given.sheets(), """
            sew(6, 3) = UNKNOWN
            sew(0, 3) = OUTSIDE
            sew(0, 0) = STATE
            search(4, 3, 9, 1, 0) = UNKNOWN
            search(0, 3, 9, 1, 0) = OUTSIDE
            search(0, 0, 9, 1, 0) = INDEX
            search(2, 2, 1, 1, 0) = STATE
            sieve(2, 2, 1, 1, 0) = STATE
            """).run(Given.five(), "reading(0, true)\n".repeat(8), """
            reading(5, true) = UNKNOWN
            reading(0, true) = FULL
            """);
        s.of(33, "they change nothing (but fault(), of a call that names FAULTS).").run(Given.busy(), """
            as(0, 2) = CAST
            near(21) = OUTSIDE
            fault() = 2
            as(0, 3) = OUTSIDE
            fault() = 0
            near(3) = 3
            """);
        s.of(20, "NONE is -9.").run(Given.shop("b3540000000;t35400"), """
            reading(0, true)
            reading(0, false)
            memories(1) = -9
            sew(0, 0) = -9
            set(1) = -9
            half() = -9
            quick(1) = -9
            """);
        s.due("NONE", ButtonMatch.NONE, -9);
        s.due("UNKNOWN", ButtonMatch.UNKNOWN, -1);
        s.due("OUTSIDE", ButtonMatch.OUTSIDE, -2);
        s.due("STATE", ButtonMatch.STATE, -3);
        s.due("FULL", ButtonMatch.FULL, -4);
        s.due("LOST", ButtonMatch.LOST, Long.MIN_VALUE);
    }

    private void many() {
        s.of(34, "(0 all without a SHOP).").run(Given.sheets(), """
            many(0) = 0
            many(1) = 0
            many(2) = 0
            many(3) = 0
            """);
        s.of(34, "OUTSIDE.").run(Given.busy(), """
            many(-1) = OUTSIDE
            many(4) = OUTSIDE
            many(MIN) = OUTSIDE
            many(MAX) = OUTSIDE
            many(0) = 5
            many(1) = 16
            many(2) = 2
            many(3) = 3
            """).run("many(4) = OUTSIDE\n many(-1) = OUTSIDE");
        s.of(34, "How many: 0 TUBES, 1 buttons in all of them, 2 READINGS, 3 NEAR");
        s.run(Given.shop("b3540000000;t00290;t00290;t00290;t00290;t00290;t00290"), """
            many(0) = 6
            many(1) = 54
            near(20)
            many(3) = 20
            """).run(Given.shop(Given.SIX), Given.shop(Given.ONE), "many(0) = 1\n many(1) = 0");
    }
}
