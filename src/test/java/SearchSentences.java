/** Promises 10 and 11 at their boundaries: search, sieve. */
final class SearchSentences {
    private final Sentences s;

    SearchSentences(Sentences s) {
        this.s = s;
    }

    void all() {
        searchRefusals();
        searchFaults();
        searchWithoutShop();
        searches();
        sieveRefusals();
        sieveFaults();
        sieveSigns();
        sievings();
    }

    /** SHEET 0 has TUBES 4 2 over and over, 21 of them, none of which is ALIKE as it is at first. */
    private static String twentyOne() {
        int[] row = new int[21];
        for (int i = 0; i < row.length; i++) {
            row[i] = i % 2 == 0 ? 4 : 2;
        }
        return Given.five() + Given.row(0, 0, row);
    }

    private void searchRefusals() {
        s.of(10, "UNKNOWN: SHEET").run(Given.busy(), """
            search(-1, 0, 0, 1, 0) = UNKNOWN
            search(4, 0, 0, 1, 0) = UNKNOWN
            search(MIN, 3, 9, 21, 3) = UNKNOWN
            search(MAX, -1, -1, -1, -1) = UNKNOWN
            search(0, 0, 0, 1, 1) = 0
            """).run(Given.five(), Given.row(3, 0, 4, 0), "search(3, 0, 1, 1, 1) = 0");
        s.of(10, "OUTSIDE: lane").run(Given.busy(), """
            search(0, -1, 0, 1, 0) = OUTSIDE
            search(0, 3, 0, 1, 0) = OUTSIDE
            search(0, MIN, 0, 1, 0) = OUTSIDE
            search(3, MAX, 9, 1, 0) = OUTSIDE
            search(0, 0, 0, 2, 2) = 1
            search(1, 1, 0, 2, 2) = 2
            search(2, 2, 0, 1, 2) = 1
            """).run("search(0, 3, 0, 1, 0) = OUTSIDE");
        s.of(10, ", n (0 .. 20)").run(twentyOne(), """
            search(0, 0, 0, 21, 0) = OUTSIDE
            search(0, 0, 0, -1, 0) = OUTSIDE
            search(0, 0, 0, MIN, 0) = OUTSIDE
            search(3, 0, 9, MAX, 0) = OUTSIDE
            search(0, 2, 9, 21, 0) = OUTSIDE
            search(0, 0, 1, 20, 2) = 20
            search(0, 0, 1, 0, 2) = 0
            """).run("search(0, 0, 0, 21, 0) = OUTSIDE\n search(0, 0, 0, -1, 0) = OUTSIDE");
        s.of(10, ", what; FAULTS").run(Given.busy(), """
            search(0, 0, 0, 1, -1) = OUTSIDE
            search(0, 0, 0, 1, 3) = OUTSIDE
            search(0, 0, 9, 1, MIN) = OUTSIDE
            search(3, 0, 0, 1, MAX) = OUTSIDE
            search(0, 0, 0, 1, 0) = 1
            search(0, 0, 0, 1, 1) = 0
            search(0, 0, 0, 1, 2) = 1
            """).run("search(0, 0, 0, 1, 3) = OUTSIDE\n search(0, 0, 0, 1, -1) = OUTSIDE");
    }

    private void searchFaults() {
        s.of(10, "FAULTS CAST").run(Given.busy(), """
            search(0, 1, 0, 1, 0) = CAST
            search(0, 2, 0, 1, 0) = CAST
            search(1, 0, 0, 0, 0) = CAST
            search(2, 0, 9, 20, 0) = CAST
            """).run(Given.sheets(), "search(2, 1, 1, 1, 0) = CAST");
        s.of(10, ", NULL").run(Given.busy(), """
            search(3, 0, 0, 1, 0) = NULL
            search(3, 1, 0, 0, 0) = NULL
            search(3, 2, -1, 20, 0) = NULL
            """).run("search(0, 0, 9, 1, 0) = NULL");
        s.of(10, ", INDEX; STATE").run(Given.busy(), """
            search(0, 0, -1, 1, 0) = INDEX
            search(0, 0, 0, 4, 0) = INDEX
            search(0, 0, 1, 3, 0) = INDEX
            search(0, 0, MAX, 20, 0) = INDEX
            search(0, 0, MIN, 20, 0) = INDEX
            search(2, 2, 1, 4, 0) = INDEX
            search(0, 0, 0, 3, 2) = 1
            """).run(Given.sheets(), "search(2, 2, 1, 4, 0) = INDEX");
        // A SHEET may have had a longer row: what stood behind the new one's end is not there.
        s.run(Given.busy(), "sheet(0, 0, 2)\n search(0, 0, 0, 3, 0) = INDEX");
        s.of(10, "(of cells from i on also where i is not 0 .. how many there are, if none of them is taken, too)");
        s.run(Given.busy(), """
            search(0, 0, -1, 0, 0) = INDEX
            search(0, 0, 4, 0, 0) = INDEX
            search(0, 0, MAX, 0, 1) = INDEX
            search(0, 0, MIN, 0, 2) = INDEX
            search(0, 0, 3, 0, 0) = 0
            search(0, 0, 0, 0, 0) = 0
            """);
    }

    private void searchWithoutShop() {
        s.of(10, "STATE: there is no SHOP;").run(Given.sheets(), """
            search(0, 0, 0, 3, 0) = STATE
            search(0, 0, 3, 0, 1) = STATE
            search(2, 2, 0, 4, 0) = STATE
            search(2, 2, 2, 1, 2) = STATE
            """);
        s.of(10, "UNKNOWN: TUBE.").run(Given.busy(), """
            search(2, 2, 1, 1, 0) = UNKNOWN
            search(2, 2, 2, 1, 1) = UNKNOWN
            search(2, 2, 2, 2, 2) = UNKNOWN
            search(2, 2, 0, 2, 1) = UNKNOWN
            search(2, 2, 3, 1, 1) = 3
            """).run(Given.busy(), Given.row(3, 2, Integer.MAX_VALUE, Integer.MIN_VALUE, 256), """
            search(3, 2, 0, 1, 0) = UNKNOWN
            search(3, 2, 1, 1, 0) = UNKNOWN
            search(3, 2, 2, 1, 0) = UNKNOWN
            """).run(Given.shop(Given.SIX), Given.row(0, 0, 5, 6), """
            search(0, 0, 0, 1, 2) = 1
            search(0, 0, 1, 1, 2) = UNKNOWN
            """);
    }

    private void searches() {
        s.of(10, "the TUBE that is FOUND (1; NONE)").run(twentyOne(), """
            search(0, 0, 0, 0, 0) = 0
            search(0, 0, 0, 0, 1) = NONE
            search(0, 0, 0, 0, 2) = 0
            search(0, 0, 0, 20, 1) = NONE
            search(0, 0, 0, 20, 2) = 20
            near(2)
            search(0, 0, 0, 20, 1) = 2
            """);
        s.of(10, "A SEARCH by a row of TUBES (some may come again)").run(Given.five(), Given.row(0, 0, 4, 4, 4), """
            search(0, 0, 0, 3, 0) = 7
            search(0, 0, 0, 3, 1) = NONE
            search(0, 0, 0, 3, 2) = 3
            """);
        s.of(10, "she stands at TUBE 0; to the next one it takes as many SECONDS as TUBES are apart, and 1 to look.");
        s.run(Given.shop("b7940000000;t00200;t00200;t00200;t00200;t00200;t00200"), Given.row(0, 0, 0, 5, 0, 5), """
            search(0, 0, 0, 1, 0) = 1
            search(0, 0, 1, 1, 0) = 6
            search(0, 0, 0, 4, 0) = 19
            """);
        s.of(10, "It ends with the first one that is ALIKE: that is FOUND.");
        s.run(Given.five(), Given.row(0, 0, 4, 1, 0, 3), """
            search(0, 0, 0, 4, 0) = 9
            search(0, 0, 0, 4, 1) = 1
            search(0, 0, 0, 4, 2) = 2
            search(0, 0, 2, 2, 2) = 1
            stock(1, 0)
            search(0, 0, 0, 4, 1) = 1
            """);
    }

    private void sieveRefusals() {
        s.of(11, "UNKNOWN: SHEET").run(Given.busy(), """
            sieve(-1, 0, 0, 1, 0) = UNKNOWN
            sieve(4, 0, 0, 1, 0) = UNKNOWN
            sieve(MIN, 3, 9, 4, 2) = UNKNOWN
            sieve(MAX, -1, -1, -1, -1) = UNKNOWN
            sieve(0, 0, 0, 1, 0) = 5
            """).run(Given.five(), Given.row(3, 0, 0, 2), "sieve(3, 0, 1, 1, 1) = 27");
        s.of(11, "OUTSIDE: lane").run(Given.busy(), """
            sieve(0, -1, 0, 1, 0) = OUTSIDE
            sieve(0, 3, 0, 1, 0) = OUTSIDE
            sieve(0, MIN, 0, 1, 0) = OUTSIDE
            sieve(3, MAX, 9, 1, 0) = OUTSIDE
            sieve(0, 0, 0, 1, 0) = 5
            sieve(2, 2, 0, 1, 0) = 5
            """).run("sieve(0, 3, 0, 1, 0) = OUTSIDE");
        s.of(11, ", n (0 .. 3)").run(Given.five(), Given.row(0, 0, 0, 1, 2, 0), """
            sieve(0, 0, 0, 4, 0) = OUTSIDE
            sieve(0, 0, 0, -1, 0) = OUTSIDE
            sieve(0, 0, 0, MIN, 0) = OUTSIDE
            sieve(3, 0, 9, MAX, 0) = OUTSIDE
            sieve(0, 2, 9, 4, 0) = OUTSIDE
            sieve(0, 0, 0, 3, 0) = 11
            sieve(0, 0, 0, 0, 0) = 0
            """).run("sieve(0, 0, 0, 4, 0) = OUTSIDE\n sieve(0, 0, 0, -1, 0) = OUTSIDE");
        s.of(11, ", what; FAULTS").run(Given.busy(), """
            sieve(0, 0, 0, 1, -1) = OUTSIDE
            sieve(0, 0, 0, 1, 2) = OUTSIDE
            sieve(0, 0, 9, 1, MIN) = OUTSIDE
            sieve(3, 0, 0, 1, MAX) = OUTSIDE
            sieve(0, 0, 0, 1, 0) = 5
            sieve(0, 0, 0, 1, 1) = 8
            """).run("sieve(0, 0, 0, 1, 2) = OUTSIDE\n sieve(0, 0, 0, 1, -1) = OUTSIDE");
    }

    private void sieveFaults() {
        s.of(11, "FAULTS CAST").run(Given.busy(), """
            sieve(0, 1, 0, 1, 0) = CAST
            sieve(0, 2, 0, 1, 0) = CAST
            sieve(1, 0, 0, 0, 0) = CAST
            sieve(2, 0, 9, 3, 0) = CAST
            """).run(Given.sheets(), "sieve(2, 1, 1, 1, 0) = CAST");
        s.of(11, ", NULL").run(Given.busy(), """
            sieve(3, 0, 0, 1, 0) = NULL
            sieve(3, 1, 0, 0, 0) = NULL
            sieve(3, 2, -1, 3, 0) = NULL
            """).run("sieve(0, 0, 9, 1, 0) = NULL");
        s.of(11, ", INDEX; STATE").run(Given.busy(), """
            sieve(0, 0, -1, 1, 0) = INDEX
            sieve(0, 0, 1, 3, 0) = INDEX
            sieve(1, 1, 0, 3, 0) = INDEX
            sieve(0, 0, MAX, 3, 0) = INDEX
            sieve(0, 0, MIN, 3, 0) = INDEX
            sieve(2, 2, 2, 3, 0) = INDEX
            sieve(0, 0, 0, 3, 1) = 0
            """).run(Given.sheets(), "sieve(2, 2, 2, 3, 0) = INDEX");
        // A SHEET may have had a longer row: what stood behind the new one's end is not there.
        s.run(Given.busy(), "sheet(0, 0, 1)\n sieve(0, 0, 0, 2, 0) = INDEX");
        s.of(11, "(of cells from i on also where i is not 0 .. how many there are, if none of them is taken, too)");
        s.run(Given.busy(), """
            sieve(0, 0, -1, 0, 0) = INDEX
            sieve(0, 0, 4, 0, 0) = INDEX
            sieve(0, 0, MAX, 0, 1) = INDEX
            sieve(0, 0, MIN, 0, 1) = INDEX
            sieve(0, 0, 3, 0, 1) = 31
            sieve(0, 0, 0, 0, 1) = 31
            """);
    }

    private void sieveSigns() {
        s.of(11, "STATE: there is no SHOP;").run(Given.sheets(), """
            sieve(0, 0, 0, 3, 0) = STATE
            sieve(0, 0, 3, 0, 1) = STATE
            sieve(2, 2, 1, 1, 0) = STATE
            sieve(2, 2, 2, 1, 1) = STATE
            """);
        s.of(11, "OUTSIDE: a sign").run(Given.busy(), """
            sieve(2, 2, 1, 1, 0) = OUTSIDE
            sieve(2, 2, 2, 1, 1) = OUTSIDE
            sieve(2, 2, 3, 1, 0) = OUTSIDE
            sieve(2, 2, 0, 2, 1) = OUTSIDE
            """).run(Given.busy(), Given.row(3, 2, Integer.MAX_VALUE, Integer.MIN_VALUE, 32), """
            sieve(3, 2, 0, 1, 0) = OUTSIDE
            sieve(3, 2, 1, 1, 0) = OUTSIDE
            sieve(3, 2, 2, 1, 0) = OUTSIDE
            """);
        // No TUBE is left behind the first sign, and the second is looked at all the same.
        s.run(Given.shop("b0020000000;t70200"), Given.row(0, 0, 0, 3), "sieve(0, 0, 0, 2, 0) = OUTSIDE");
        s.of(11, "(twice: so, too).").run(Given.busy(), Given.row(3, 0, 0, 0, 2, 0, 1, 1, 2, 2), """
            sieve(3, 0, 0, 2, 0) = OUTSIDE
            sieve(3, 0, 1, 3, 1) = OUTSIDE
            sieve(3, 0, 4, 2, 0) = OUTSIDE
            sieve(3, 0, 5, 3, 1) = OUTSIDE
            sieve(3, 0, 6, 2, 0) = OUTSIDE
            sieve(3, 0, 2, 3, 0) = 10
            """);
        s.of(11, "(0 COLOUR, 1 SIZE, 2 HOLES; each but once)").run(Given.five(), Given.row(0, 0, 0, 1, 2, 1, 0), """
            sieve(0, 0, 0, 1, 1) = 7
            sieve(0, 0, 1, 1, 1) = 31
            sieve(0, 0, 2, 1, 1) = 27
            sieve(0, 0, 0, 3, 1) = 3
            sieve(0, 0, 2, 3, 1) = 3
            sieve(0, 0, 1, 3, 1) = OUTSIDE
            """);
    }

    private void sievings() {
        s.of(11, "all TUBES at first").run(Given.five(), Given.row(0, 0), """
            sieve(0, 0, 0, 0, 0) = 0
            sieve(0, 0, 0, 0, 1) = 31
            """).run(Given.shop(Given.SIX), "sheet(0, 2, 0)\n sieve(0, 2, 0, 0, 1) = 63")
            .run(Given.shop(Given.SIX), Given.shop(Given.ONE), "sheet(0, 2, 0)\n sieve(0, 2, 0, 0, 1) = 1");
        s.of(11, "it takes 1 SECOND for each TUBE that is left, behind which those are left by which the sign LOOKS as "
                + "REMEMBERED.");
        s.run(Given.shop("b3540000000;t35400;s25200;o36400;t34400;o35200;t15400"), Given.row(0, 0, 0, 1, 2, 0, 1), """
            sieve(0, 0, 0, 3, 0) = 14
            sieve(0, 0, 0, 3, 1) = 5
            sieve(0, 0, 1, 3, 0) = 13
            sieve(0, 0, 2, 3, 0) = 13
            remember(3, 3)
            sieve(0, 0, 0, 3, 0) = 6
            sieve(0, 0, 0, 3, 1) = 0
            remember(0, 3)
            sieve(0, 0, 0, 3, 0) = 11
            sieve(0, 0, 0, 3, 1) = 0
            """);
        s.run(Given.shop("b6820000000;s69200;o79200;t78200"), Given.row(0, 0, 0, 1), """
            remember(3, 0)
            sieve(0, 0, 0, 1, 1) = 7
            sieve(0, 0, 1, 1, 1) = 6
            remember(0, 3)
            sieve(0, 0, 1, 1, 1) = 1
            sieve(0, 0, 0, 1, 1) = 0
            """);
    }
}
