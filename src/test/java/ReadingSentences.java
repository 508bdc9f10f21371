/** Promises 18 to 23 at their boundaries: reading, back, memories, kinds, colours, nears. */
final class ReadingSentences {
    private static final String EIGHT = "reading(0, true)\n".repeat(8);

    private final Sentences s;

    ReadingSentences(Sentences s) {
        this.s = s;
    }

    void all() {
        reading();
        back();
        memories();
        kinds();
        colours();
        nears();
    }

    private void reading() {
        s.of(18, "UNKNOWN;").run(Given.busy(), """
            reading(-1, true) = UNKNOWN
            reading(5, false) = UNKNOWN
            reading(MIN, true) = UNKNOWN
            reading(MAX, false) = UNKNOWN
            reading(4, false) = 2
            """).run(Given.five(), EIGHT, "reading(5, true) = UNKNOWN\n reading(-1, false) = UNKNOWN")
            .run("reading(0, true) = UNKNOWN");
        s.of(18, "FULL.").run(Given.five(), EIGHT, """
            reading(0, true) = FULL
            reading(4, false) = FULL
            many(2) = 8
            back(1) = 7
            reading(4, false) = 7
            reading(4, false) = FULL
            """);
        s.of(18, "READINGS, 8 at most, numbered by how many there are");
        StringBuilder rows = new StringBuilder();
        for (int number = 0; number < 8; number++) {
            rows.append("reading(").append(number % 5).append(", false) = ").append(number).append('\n');
        }
        s.run(Given.five(), rows.toString(), """
            many(2) = 8
            reading(0, false) = FULL
            back(8) = 0
            reading(4, true) = 0
            """);
        s.run(Given.five(), EIGHT, Given.shop(Given.ONE), "many(2) = 0\n reading(0, true) = 0\n reading(0, true) = 1");
    }

    private void back() {
        s.of(19, "(0 .. as many as there are)").run(Given.busy(), """
            back(0) = 2
            back(2) = 0
            back(0) = 0
            """).run(Given.five(), EIGHT, "back(0) = 8\n back(8) = 0\n many(2) = 0").run("back(0) = 0");
        s.of(19, "OUTSIDE.").run(Given.busy(), """
            back(-1) = OUTSIDE
            back(3) = OUTSIDE
            back(MIN) = OUTSIDE
            back(MAX) = OUTSIDE
            """).run(Given.five(), EIGHT, "back(9) = OUTSIDE").run("back(1) = OUTSIDE\n back(-1) = OUTSIDE");
        s.of(19, "The last k READINGS").run(Given.shop("b3540000000;t35400;t00200"), """
            reading(0, true)
            reading(1, true)
            nears() = 2096128
            back(1) = 1
            nears() = 2097151
            """);
    }

    private void memories() {
        s.of(20, "the first (1; NONE).").run(Given.shop("b3540000000;t35400;t68400"), """
            memories(0) = 16
            memories(1) = 0
            reading(1, true)
            memories(0) = 1
            memories(1) = 33
            reading(0, true)
            memories(0) = 0
            memories(1) = NONE
            """);
        s.of(20, "OUTSIDE;").run(Given.busy(), """
            memories(-1) = OUTSIDE
            memories(2) = OUTSIDE
            memories(MIN) = OUTSIDE
            memories(MAX) = OUTSIDE
            """);
        s.of(20, "STATE: there is no SHOP.").run(Given.sheets(), """
            memories(0) = STATE
            memories(1) = STATE
            memories(2) = OUTSIDE
            memories(-1) = OUTSIDE
            """);
        s.of(20, "MEMORIES: REDDER and LARGER (both otherwise): how many, the first (10 times REDDER, and LARGER)");
        s.run(Given.shop("b6740000000;t79400"), """
            remember(2, 2)
            reading(0, true)
            memories(0) = 6
            memories(1) = 12
            remember(0, 0) = 22
            """).run(Given.shop("b3540000000;t35400"), """
            remember(3, 3)
            reading(0, false)
            memories(0) = 15
            memories(1) = 1
            remember(0, 0) = 33
            """);
    }

    private void kinds() {
        s.of(21, "UNKNOWN.").run(Given.busy(), """
            kinds(-1) = UNKNOWN
            kinds(5) = UNKNOWN
            kinds(MIN) = UNKNOWN
            kinds(MAX) = UNKNOWN
            """).run("kinds(0) = UNKNOWN");
        s.of(21, "KINDS of a TUBE: 0 .. 2, as a set").run(Given.shop("b3540000000;t25400;t36400;o35400"), """
            kinds(0) = 7
            kinds(2) = 7
            reading(0, true)
            kinds(0) = 2
            kinds(1) = 0
            back(1)
            reading(1, true)
            kinds(1) = 4
            back(1)
            reading(2, true)
            kinds(2) = 1
            back(1)
            reading(2, false)
            kinds(2) = 6
            ofTube(2, 0) = 2
            """);
        // COLOUR 7 and SIZE 0 LOOK the same by every kind.
        s.run(Given.shop("b7040000000;t70400"), """
            reading(0, true)
            kinds(0) = 7
            reading(0, false)
            kinds(0) = 0
            ofTube(0, 0) = 0
            """);
    }

    private void colours() {
        s.of(22, "UNKNOWN.").run(Given.busy(), """
            colours(-1) = UNKNOWN
            colours(5) = UNKNOWN
            colours(MIN) = UNKNOWN
            colours(MAX) = UNKNOWN
            """).run("colours(0) = UNKNOWN");
        s.of(22, "COLOURS of a TUBE: 0 .. 7, as a set").run(Given.shop("b0540000000;t35400;s35400;o36400"), """
            colours(0) = 255
            reading(0, true)
            colours(0) = 1
            colours(1) = 0
            back(1)
            reading(1, true)
            colours(1) = 0
            back(1)
            reading(2, true)
            colours(2) = 1
            ofTube(2, 1) = 3
            """).run(Given.shop("b7540000000;t35400;s35400;o36400"), """
            reading(0, true)
            colours(0) = 128
            back(1)
            reading(1, true)
            colours(1) = 192
            reading(1, false)
            colours(1) = 0
            ofTube(1, 1) = 3
            """);
    }

    private void nears() {
        s.of(23, "STATE: there is no SHOP.").run(Given.sheets(), "nears() = STATE");
        s.of(23, "NEARS: 0 .. 20, as a set.").run(Given.shop("b0020000000;t00200;t79400"), """
            nears() = 2097151
            reading(0, true)
            nears() = 2097151
            reading(1, false)
            nears() = 262143
            back(1)
            reading(1, true)
            nears() = 1835008
            reading(0, false)
            nears() = 0
            many(3) = 0
            """);
        s.of(23, "Sets are told as bits (bit k for number k).").run(Given.five(), """
            near(20)
            reading(2, true)
            reading(4, false)
            nears() = 12
            colours(4) = 0
            kinds(4) = 0
            many(3) = 20
            """);
    }
}
