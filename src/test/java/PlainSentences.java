/** Promises 2 to 32 by ordinary numbers: what each call answers, and the terms by which it does. */
final class PlainSentences {
    private final Sentences s;

    PlainSentences(Sentences s) {
        this.s = s;
    }

    void all() {
        shop();
        tubes();
        memory();
        searches();
        orders();
        places();
        tin();
        readings();
        inPlaceOfOneAlone();
        sheets();
        parts();
    }

    private void shop() {
        s.of(2, "A SHOP by a TEXT of n cells of a SHEET from i on, taken as a row of a LANE: how many TUBES;");
        for (int lane = 0; lane <= 2; lane++) {
            String shop = "shop(1, " + lane + ", 2, ";
            s.run(Given.text(1, lane, ";;" + Coats.FIVE + ";;"), shop + "18) = 1\n many(0) = 1\n" + shop + "46) = 5\n"
                    + "many(0) = 5\n ofTube(4, 1) = 7\n" + shop + "25) = 2\n many(0) = 2");
        }
        s.of(3, "Of the button that is WANTED: 0 COLOUR, 1 SIZE, 2 HOLES, 3 SEWING.");
        s.run(Given.shop("b1629999998;t35400"), """
            remember(3, 3)
            wanted(0) = 1
            wanted(1) = 6
            wanted(2) = 2
            wanted(3) = 8
            """);
        s.of(4, "How well it is SEEN in a PLACE (0 .. 5).").run(Given.shop("b3542947160;t35400"), """
            seen(0) = 2
            seen(1) = 9
            seen(2) = 4
            seen(3) = 7
            seen(4) = 1
            seen(5) = 6
            """);
    }

    private void tubes() {
        s.of(5, "Of a TUBE: 0 kind, 1 COLOUR, 2 SIZE, 3 HOLES, 4 COUNT, 5 PENCE, 6 the COLOUR by which it LOOKS, "
                + "7 the SIZE by which it LOOKS.");
        s.run(Given.shop("b0020000000;t68437;s15283;o39401"), """
            ofTube(1, 0) = 1
            ofTube(1, 1) = 1
            ofTube(1, 2) = 5
            ofTube(1, 3) = 2
            ofTube(1, 4) = 8
            ofTube(1, 5) = 3
            ofTube(1, 6) = 2
            ofTube(1, 7) = 5
            """).run(Given.shop("b0020000000;t68437;s15283;o39401"), """
            ofTube(2, 0) = 2
            ofTube(2, 1) = 3
            ofTube(2, 2) = 9
            ofTube(2, 3) = 4
            ofTube(2, 4) = 0
            ofTube(2, 5) = 1
            ofTube(2, 6) = 3
            ofTube(2, 7) = 8
            """);
        s.of(5, "LOOKS: a TUBE by its COLOUR, its SIZE, its HOLES;");
        s.run(Given.shop("b6840000000;t68437;t68237"), """
            ofTube(0, 6) = 6
            ofTube(0, 7) = 8
            far(0) = 0
            far(1) = 2
            """);
        s.of(8, "A TUBE has v buttons (COUNT 0 .. 9): how many it had.").run(Given.five(), """
            stock(0, 8) = 3
            stock(0, 1) = 8
            ofTube(0, 4) = 1
            ofTube(1, 4) = 1
            many(1) = 13
            """);
    }

    private void memory() {
        s.of(6, "It is REMEMBERED by REDDER, LARGER:").run(Given.shop("b3540000000;t58400"), """
            far(0) = 5
            remember(2, 1) = 0
            far(0) = 2
            remember(1, 3) = 21
            far(0) = 1
            remember(0, 0) = 13
            far(0) = 5
            """);
        s.of(6, "REMEMBERED: REDDER 0 .. 3 (so much more COLOUR, 7 at most), LARGER 0 .. 3 (so much more SIZE, "
                + "9 at most)");
        s.run(Given.shop("b3540000000;t68400"), "remember(3, 3)\n far(0) = 0");
        s.of(7, "NEAR becomes v (0 .. 20): what it was.").run(Given.five(), """
            near(3) = 0
            near(1) = 3
            many(3) = 1
            near(1) = 1
            """);
        s.of(9, "How FAR a TUBE is from what is REMEMBERED.").run(Given.five(), """
            remember(1, 1)
            far(0) = 2
            far(1) = 2
            far(2) = 4
            far(3) = 1
            far(4) = 4
            """);
        s.of(9, "FAR is a TUBE from what is REMEMBERED: by how much COLOUR, SIZE differ, together");
        s.run(Given.shop("b3540000000;t17400;t53200"), "far(0) = 4\n far(1) = 6\n remember(2, 0)\n far(1) = 4");
    }

    private void searches() {
        s.of(10, "A SEARCH by n cells of a SHEET: SECONDS (what 0), the TUBE that is FOUND (1; NONE), how many are "
                + "looked at (2).");
        s.run(Given.five(), Given.row(1, 1, 4, 2, 3, 0, 1), """
            search(1, 1, 0, 5, 0) = 14
            search(1, 1, 0, 5, 1) = 0
            search(1, 1, 0, 5, 2) = 4
            search(1, 1, 1, 2, 0) = 5
            search(1, 1, 1, 2, 1) = NONE
            search(1, 1, 1, 2, 2) = 2
            """);
        s.of(11, "A SIEVING by n cells of a SHEET: SECONDS (what 0), which are left, as a set (1).");
        s.run(Given.five(), Given.row(1, 1, 1, 2, 0), """
            sieve(1, 1, 1, 2, 0) = 9
            sieve(1, 1, 1, 2, 1) = 3
            sieve(1, 1, 1, 1, 0) = 5
            sieve(1, 1, 1, 1, 1) = 27
            """);
        s.of(11, "A SIEVING by a row of signs (0 COLOUR, 1 SIZE, 2 HOLES; each but once): all TUBES at first; "
                + "sign by sign it takes 1 SECOND for each TUBE that is left");
        s.run(Given.five(), Given.row(1, 1, 0, 2, 1), """
            remember(1, 0)
            sieve(1, 1, 0, 1, 1) = 8
            sieve(1, 1, 0, 2, 0) = 6
            sieve(1, 1, 0, 3, 0) = 7
            sieve(1, 1, 0, 3, 1) = 8
            """);
    }

    private void orders() {
        s.of(12, "QUICK: SECONDS together (k -1), its k-th TUBE (0 on);");
        s.run(Given.shop("b3540000000;t35400;t35400"), """
            quick(-1) = 4
            quick(0) = 0
            quick(1) = 1
            quick(2) = NONE
            """);
        s.of(12, "QUICK: the order of all TUBES by which the SECONDS till each one is looked at");
        StringBuilder text = new StringBuilder("b3540000000");
        for (int tubes = 1; tubes <= 6; tubes++) {
            // TUBE 0 is looked at by 1 SECOND, each other one by 2 more than the one ahead of it.
            text.append(";t00290");
            s.run(Given.shop(text.toString()), "quick(-1) = " + tubes * tubes, "quick(" + (tubes - 1) + ") = "
                    + (tubes - 1));
        }
        s.of(13, "SIGNS: SECONDS (k -1), its k-th sign (0 .. 2).").run(Given.five(), """
            signs(-1) = 10
            signs(0) = 0
            signs(1) = 2
            signs(2) = 1
            """);
        s.of(13, "SIGNS: the order of all three by which a SIEVING takes the least SECONDS");
        s.run(Given.shop("b3540000000;t36400;t38200;t15400"), """
            signs(-1) = 4
            signs(0) = 1
            signs(1) = 0
            remember(0, 3)
            signs(-1) = 4
            signs(0) = 1
            signs(1) = 2
            signs(2) = 0
            """);
    }

    private void places() {
        String coat = Given.shop("b3549145723;t55414;t35419");
        s.of(14, "PUT for a PLACE: HARM (what 0), the TUBE (1), the PLACE where it goes (2);").run(coat, """
            sew(0, 0) = 9
            sew(0, 1) = 0
            sew(0, 2) = 1
            sew(5, 0) = 8
            sew(5, 1) = 0
            sew(5, 2) = 5
            """);
        s.of(14, "PUT for a PLACE where a button is missing: a TUBE").run(coat, """
            sew(1, 0) = 6
            sew(1, 2) = 1
            stock(0, 0)
            sew(2, 0) = 9
            sew(2, 1) = 1
            sew(2, 2) = 2
            """);
        s.of(14, "times how well it is SEEN there, and PENCE, and that SEWING");
        s.run(Given.shop("b3547777777;t46415"), "sew(3, 0) = 19\n sew(3, 2) = 3");
        s.run(Given.shop("b3547773774;t46415"), "sew(0, 0) = 15\n sew(0, 2) = 3\n sew(3, 0) = 11\n sew(3, 2) = 3");
        s.of(15, "SET of n (1 .. 9): PENCE;").run(Given.shop("b3540000000;t35433;t35495"), """
            set(1) = 3
            set(3) = 9
            set(4) = 20
            set(9) = 45
            """);
        s.of(15, "SET of n: the least PENCE together for n buttons of one TUBE");
        s.run(Given.shop("b3540000000;t35421;t35421;t00434"), "set(2) = 2\n set(3) = 12\n set(4) = NONE");
    }

    private void tin() {
        s.of(16, "which 0 the upper, 1 the lower number).").run(Given.shop("b3540000000;t35420;t00230"), """
            tin(1, 0) = 2
            tin(1, 1) = 5
            tin(2, 0) = 7
            tin(2, 1) = 10
            """);
        s.of(16, "TIN: all buttons of all TUBES (COUNTS) in one");
        s.run(Given.shop("b3540000000;t35420;t00230;s25410;t00210"), """
            tin(1, 0) = 3
            tin(1, 1) = 7
            stock(0, 0)
            tin(1, 0) = 1
            tin(1, 1) = 5
            """);
    }

    private void readings() {
        s.of(18, "A READING: its number.").run(Given.five(), """
            reading(3, true) = 0
            reading(3, true) = 1
            back(1) = 1
            reading(0, false) = 1
            reading(0, false) = 2
            """);
        s.of(18, "numbered by how many there are: a TUBE was ALIKE, or was not.").run(Given.five(), """
            reading(3, true) = 0
            nears() = 2097150
            reading(4, false) = 1
            nears() = 14
            """);
        s.of(19, "The last k READINGS (0 .. as many as there are) are taken back: how many are left.");
        s.run(Given.five(), """
            reading(3, true)
            reading(4, false)
            reading(4, true)
            back(2) = 1
            nears() = 2097150
            back(0) = 1
            back(1) = 0
            nears() = 2097151
            """);
        s.of(20, "MEMORIES: how many (what 0), the first (1; NONE).").run(Given.five(), """
            reading(3, true)
            memories(0) = 1
            memories(1) = 10
            """);
        s.of(21, "KINDS, as a set.").run(Given.five(), "near(1)\n reading(3, true)\n kinds(3) = 1\n kinds(0) = 7");
        s.of(22, "COLOURS, as a set.");
        s.run(Given.five(), "near(1)\n reading(3, true)\n colours(3) = 28\n colours(0) = 255");
        s.of(23, "NEARS, as a set.").run(Given.five(), "near(1)\n reading(2, false)\n nears() = 3");
    }

    private void inPlaceOfOneAlone() {
        s.of(20, "All that follows: in place of what it is alone, by which all READINGS are so:");
        s.run(Given.shop("b3540000000;t45400;t35400"), """
            near(1)
            reading(0, true)
            reading(1, true)
            memories(0) = 2
            memories(1) = 0
            kinds(0) = 1
            colours(0) = 28
            nears() = 2097150
            remember(1, 0) = 0
            memories(0) = 2
            kinds(0) = 7
            kinds(1) = 3
            colours(0) = 56
            colours(1) = 56
            """, """
            near(0) = 1
            memories(0) = 0
            kinds(0) = 0
            colours(0) = 0
            colours(1) = 16
            nears() = 2097150
            """);
    }

    private void sheets() {
        s.of(24, "A SHEET gets a new row: 1.").run("sheet(1, 1, 5) = 1\n put(1, 4, 7)\n sheet(1, 2, 3) = 1", """
            cell(1, 2, 2) = 0
            cell(1, 3, 2) = LOST INDEX
            cell(1, 0, 1) = LOST CAST
            """);
        s.of(24, "SHEETS 0 .. 3 have nothing (at first), or a row of 0 .. 60 numbers").run("""
            put(2, 0, 1) = NULL
            sheet(2, 0, 1) = 1
            put(2, 0, 1) = 1
            """);
        s.of(25, "A SHEET has nothing: 1;").run(Given.sheets(), "lose(1) = 1\n put(1, 0, 1) = NULL\n put(0, 0, 1) = 1");
        s.of(26, "Cell i of a SHEET becomes v: 1.").run(Given.sheets(), """
            put(2, 2, 77) = 1
            cell(2, 2, 2) = 77
            cell(2, 1, 2) = 5
            cell(2, 3, 2) = 3
            cell(0, 2, 0) = 2
            """);
        s.of(27, "Cell i of what a SHEET has, taken as a row of a LANE.").run(Given.sheets(), """
            cell(0, 1, 0) = 1
            cell(1, 1, 1) = 3
            cell(2, 2, 2) = -1
            """);
        s.of(28, "n cells of a SHEET from i on go to another one (perhaps the same) from j on, as they were: n.");
        s.run(Given.sheets(), Given.row(3, 2, 9, 8, 7, 6, 5), """
            copy(2, 1, 3, 2, 2) = 2
            cell(3, 1, 2) = 8
            cell(3, 2, 2) = 5
            cell(3, 3, 2) = -1
            cell(3, 4, 2) = 5
            cell(2, 1, 2) = 5
            """);
    }

    private void parts() {
        String kinds = Given.shop("b3540000000;t35407;s35404;o35406");
        s.of(29, "TELLING of a TUBE.").run(kinds, "tell(0) = 7\n tell(1) = 104\n tell(2) = 112");
        s.of(29, "TELLING of TUBES by bodies that leave their number in TRACE");
        // 3, 2, 1, 1 one behind another: ((3 * 31 + 2) * 31 + 1) * 31 + 1.
        s.run(kinds, "tell(0)\n trace() = 1").run(kinds, "tell(1)\n trace() = 63");
        s.run(kinds, "tell(2)\n trace() = 91327");
        s.of(29, "TUBE (1): PENCE. SHADED (2): what TUBE's gives, and 100.").run(kinds, """
            tell(0) = 7
            trace() = 1
            tell(1) = 104
            trace() = 1024
            """);
        s.of(30, "How it is RATTLED.").run(kinds, """
            rattle(1) = 1
            trace() = 4
            rattle(2) = 50
            trace() = 129
            rattle(0) = 0
            trace() = 4003
            """);
        s.of(31, "A TUBE, taken as one of a kind: 1.");
        s.run(kinds, "as(0, 0) = 1\n as(1, 1) = 1\n as(2, 2) = 1\n as(2, 1) = 1");
        s.of(32, "TRACE.").run(kinds, "trace() = 0\n tell(0)\n trace() = 1\n trace() = 1\n tell(0)\n trace() = 32");
        s.of(32, "as they begin").run(kinds, "tell(1)\n trace() = 63");
    }
}
