import java.util.List;

/** Promises 1 to 9 at their boundaries: a new object, shop, wanted, seen, ofTube, remember, near, stock, far. */
final class ShopSentences {
    private final Sentences s;

    ShopSentences(Sentences s) {
        this.s = s;
    }

    void all() {
        newObject();
        callsOfAnObject();
        shopRefusals();
        shopFaults();
        cellsOfAText();
        headOfAText();
        tubesOfAText();
        firstFault();
        allAnew();
        wanted();
        seen();
        ofTube();
        looks();
        remember();
        near();
        stock();
        far();
    }

    private void newObject() {
        s.of(1, "No SHOP (no TUBES)").run("""
            many(0) = 0
            many(1) = 0
            wanted(0) = STATE
            seen(0) = STATE
            quick(-1) = STATE
            ofTube(0, 0) = UNKNOWN
            far(0) = UNKNOWN
            """);
        s.of(1, "SHEETS have nothing.").run("""
            lose(0) = 0
            lose(1) = 0
            lose(2) = 0
            lose(3) = 0
            put(0, 0, 1) = NULL
            put(3, 0, 1) = NULL
            """);
    }

    private void callsOfAnObject() {
        s.of(1, "An object is used for at most 512 calls after it has been made");
        Asked x = new Asked();
        List<String> given = Given.shop("b3540000000;t35497").lines().toList();
        for (String call : given) {
            x.ask(call);
        }
        int trace = 0;
        for (int call = given.size() + 1; call < Asked.MOST_CALLS; call++) {
            s.due("tell(0) as call " + call, x.ask("tell(0)"), 7);
            trace = 31 * trace + 1;
        }
        s.due("trace() as the last call", x.ask("trace()"), trace);
    }

    /** SHEET 3 has a TEXT of one TUBE as a row of shorts. */
    private static String told() {
        return Given.busy() + Given.text(3, 1, Given.ONE);
    }

    private void shopRefusals() {
        s.of(2, "UNKNOWN;").run(told(), """
            shop(-1, 1, 0, 18) = UNKNOWN
            shop(4, 1, 0, 18) = UNKNOWN
            shop(MIN, 3, -1, -1) = UNKNOWN
            shop(MAX, -1, 99, -1) = UNKNOWN
            shop(3, 1, 0, 18) = 1
            """).run(Given.text(0, 2, Given.ONE), "shop(0, 2, 0, 18) = 1");
        s.of(2, "OUTSIDE: lane;").run(told(), """
            shop(3, -1, 0, 18) = OUTSIDE
            shop(3, 3, 0, 18) = OUTSIDE
            shop(3, MIN, -1, -1) = OUTSIDE
            shop(3, MAX, 99, 99) = OUTSIDE
            lose(0)
            shop(0, 3, 0, 0) = OUTSIDE
            """);
        for (int lane = 0; lane <= 2; lane++) {
            s.run(Given.text(3, lane, Given.ONE), "shop(3, " + lane + ", 0, 18) = 1");
        }
    }

    private void shopFaults() {
        s.of(2, "FAULTS CAST").run(told(), """
            shop(3, 0, 0, 18) = CAST
            shop(3, 2, 0, 18) = CAST
            shop(3, 0, -1, -1) = CAST
            shop(3, 2, 0, 19) = CAST
            """);
        s.of(2, "(nothing is no CAST)").run(told(), """
            lose(3)
            shop(3, 0, 0, 18) = NULL
            shop(3, 1, 0, 18) = NULL
            shop(3, 2, 0, 18) = NULL
            """);
        s.of(2, ", NULL").run(Given.busy(), """
            shop(3, 0, 0, 18) = NULL
            shop(3, 1, 0, 0) = NULL
            shop(3, 2, -1, -1) = NULL
            shop(3, 0, MAX, MAX) = NULL
            """).run("shop(0, 0, 0, 0) = NULL");
        s.of(2, "SIZE: n is below 0").run(told(), """
            shop(3, 1, 0, -1) = SIZE
            shop(3, 1, 18, MIN) = SIZE
            shop(3, 1, -1, -1) = SIZE
            shop(3, 1, 19, -1) = SIZE
            shop(3, 1, 0, 0) = -100
            """);
        s.of(2, "INDEX: not all cells are there").run(told(), """
            shop(3, 1, -1, 18) = INDEX
            shop(3, 1, 1, 18) = INDEX
            shop(3, 1, 0, 19) = INDEX
            shop(3, 1, MIN, 18) = INDEX
            shop(3, 1, MAX, 18) = INDEX
            shop(3, 1, 1, MAX) = INDEX
            shop(3, 1, MAX, MAX) = INDEX
            shop(3, 1, 0, 18) = 1
            """);
        s.of(2, "-100 less it.").run(Given.busy(), Given.row(3, 0, 'x', 'b'), """
            shop(3, 0, 0, 3) = INDEX
            shop(3, 0, 0, 2) = -100
            shop(3, 0, 1, 1) = -101
            """);
        s.of(2, "(of cells from i on also where i is not 0 .. how many there are, if none of them is taken, too)");
        s.run(told(), """
            shop(3, 1, -1, 0) = INDEX
            shop(3, 1, 19, 0) = INDEX
            shop(3, 1, MIN, 0) = INDEX
            shop(3, 1, MAX, 0) = INDEX
            shop(3, 1, 18, 0) = -100
            shop(3, 1, 0, 0) = -100
            """).run("sheet(3, 2, 0)\n shop(3, 2, 0, 0) = -100\n shop(3, 2, 1, 0) = INDEX");
    }

    private void cellsOfAText() {
        String ahead = "x".repeat(42);
        s.of(2, "TEXT of n cells of a SHEET from i on").run(Given.text(3, 0, ahead + Given.ONE), """
            shop(3, 0, 42, 18) = 1
            shop(3, 0, 42, 17) = -117
            shop(3, 0, 41, 19) = -100
            """).run(Given.text(3, 0, Given.ONE + ahead), """
            shop(3, 0, 0, 18) = 1
            shop(3, 0, 0, 19) = -118
            """);
        // A SHEET may have had a longer row: what stood behind the new one's end is not there.
        s.run(Given.text(3, 0, Given.ONE), "sheet(3, 0, 17)\n shop(3, 0, 0, 18) = INDEX");
        s.of(2, "(Codes: b 98, t 116, s 115, o 111, ; 59, digits 48 .. 57.)");
        for (int place = 0; place < Given.ONE.length(); place++) {
            int[] codes = Coats.codes(Given.ONE);
            for (int more : new int[] {256, 65536, Integer.MIN_VALUE}) {
                codes[place] = Given.ONE.charAt(place) + more;
                s.run(Given.row(0, 2, codes), "shop(0, 2, 0, 18) = " + (-100 - place));
            }
            codes[place] = Given.ONE.charAt(place) + 256;
            s.run(Given.row(0, 0, codes), "shop(0, 0, 0, 18) = 1");
        }
    }

    /** By each good code the call answers it, less 48; each other one is the FIRST FAULT. */
    private void codes(String text, int place, String asked, String good, String bad) {
        StringBuilder codes = new StringBuilder(text);
        String shopped = "shop(3, 0, 0, " + text.length() + ") = ";
        for (char code : good.toCharArray()) {
            codes.setCharAt(place, code);
            s.run(Given.text(3, 0, codes.toString()), shopped + (text.length() - 11) / 7, asked + " = " + (code - 48));
        }
        for (char code : bad.toCharArray()) {
            codes.setCharAt(place, code);
            s.run(Given.text(3, 0, codes.toString()), shopped + (-100 - place));
        }
    }

    private void headOfAText() {
        s.of(2, "A SHOP by a TEXT: b");
        for (char code : new char[] {'a', 'c', 'B', '0', ';', 't'}) {
            s.run(Given.text(3, 0, code + Given.ONE.substring(1)), "shop(3, 0, 0, 18) = -100");
        }
        s.of(2, "b, a digit 0 .. 7");
        codes(Given.ONE, 1, "wanted(0)", "07", "/89:");
        s.of(2, "a digit 0 .. 7, a digit 0 .. 9");
        codes(Given.ONE, 2, "wanted(1)", "09", "/:");
        s.of(2, "a digit 2 or 4 (COLOUR, SIZE, HOLES of the button that is WANTED)");
        codes(Given.ONE, 3, "wanted(2)", "24", "01356/");
        s.of(2, "then six digits 0 .. 9 (how well it is SEEN in PLACES 0 .. 5 of the coat)");
        for (int place = 0; place < 6; place++) {
            codes(Given.ONE, 4 + place, "seen(" + place + ")", "09", "/:");
        }
        s.of(2, "a digit 0 .. 9 (SEWING)");
        codes(Given.ONE, 10, "wanted(3)", "09", "/:;");
    }

    private void tubesOfAText() {
        s.of(2, "then 1 to 6 TUBES, numbered from 0 on");
        s.run(Given.text(3, 0, Given.SIX), "shop(3, 0, 0, 11) = -111\n many(0) = 0");
        s.run(Given.text(3, 0, Given.SIX), "shop(3, 0, 0, 18) = 1\n ofTube(0, 4) = 0\n ofTube(1, 4) = UNKNOWN");
        s.run(Given.text(3, 0, Given.SIX), "shop(3, 0, 0, 53) = 6\n ofTube(5, 4) = 9\n ofTube(6, 4) = UNKNOWN");
        s.of(2, "each: ; and a letter");
        for (int first : new int[] {11, 46}) {
            String text = first == 11 ? Given.ONE : Given.SIX;
            s.run(Given.text(3, 0, text), "put(3, " + first + ", 58)\n shop(3, 0, 0, " + text.length() + ") = "
                    + (-100 - first));
            codes(text, first + 1, "ofTube(0, 9)", "", "unprTSO0;");
        }
        tubeDigits(2, "a digit 0 .. 7 (COLOUR)", "07", "/89:", 1);
        tubeDigits(3, "a digit 0 .. 9 (SIZE)", "09", "/:", 2);
        tubeDigits(4, "a digit 2 or 4 (HOLES)", "24", "01356", 3);
        tubeDigits(5, "a digit 0 .. 9 (COUNT)", "09", "/:", 4);
        tubeDigits(6, "a digit 0 .. 9 (PENCE)", "09", "/:;", 5);
        s.of(5, "Kinds: 0 TUBE (t); 1 SHADED (s), a TUBE; 2 OLD (o), a SHADED.");
        s.run(Given.shop(Given.SIX), """
            ofTube(0, 0) = 0
            ofTube(1, 0) = 1
            ofTube(2, 0) = 2
            as(2, 0) = 1
            as(2, 1) = 1
            as(1, 0) = 1
            """);
    }

    /** A digit of the first TUBE of one and of the last TUBE of six. */
    private void tubeDigits(int place, String quote, String good, String bad, int what) {
        s.of(2, quote);
        codes(Given.ONE, 11 + place, "ofTube(0, " + what + ")", good, bad);
        codes(Given.SIX, 46 + place, "ofTube(5, " + what + ")", good, bad);
    }

    private void firstFault() {
        s.of(2, "-100 less the FIRST FAULT.");
        s.run(Given.busy(), Given.text(3, 0, "xx" + Given.ONE.replace('b', 'x')), """
            shop(3, 0, 0, 0) = -100
            shop(3, 0, 2, 18) = -100
            """);
        s.of(2, "FIRST FAULT: the place (from 0 on) of the first code with which no TEXT goes on");
        s.run(Given.busy(), Given.text(3, 0, "xx" + Given.ONE), """
            put(3, 19, 58)
            shop(3, 0, 2, 18) = -117
            put(3, 5, 51)
            shop(3, 0, 2, 18) = -103
            put(3, 2, 51)
            shop(3, 0, 2, 18) = -100
            """);
        s.of(2, "(the ; of a seventh TUBE)").run(Given.busy(), Given.text(3, 0, Given.SIX + ";t00200"), """
            shop(3, 0, 0, 54) = -153
            shop(3, 0, 0, 60) = -153
            put(3, 53, 48)
            shop(3, 0, 0, 54) = -153
            shop(3, 0, 0, 53) = 6
            """);
        s.of(2, "how many codes there are, if it just ends too soon");
        for (int n = 0; n <= 53; n++) {
            boolean whole = n > 11 && (n - 11) % 7 == 0;
            s.run(Given.text(3, 0, Given.SIX), "shop(3, 0, 0, " + n + ") = " + (whole ? (n - 11) / 7 : -100 - n));
        }
        s.run(Given.text(3, 0, "b003000"), "shop(3, 0, 0, 7) = -103");
    }

    private void allAnew() {
        s.of(2, "A TEXT that is taken makes all anew: it is REMEMBERED as it is, NEAR is 0, no READINGS.");
        s.run(told(), """
            shop(3, 1, 0, 17) = -117
            shop(3, 1, 0, 18) = 1
            many(0) = 1
            many(1) = 0
            many(2) = 0
            many(3) = 0
            remember(0, 0) = 0
            wanted(0) = 0
            seen(0) = 0
            ofTube(1, 0) = UNKNOWN
            quick(1) = NONE
            back(1) = OUTSIDE
            memories(0) = 16
            """).run(told(), """
            shop(3, 1, 0, 18) = 1
            stock(0, 5) = 0
            remember(3, 2) = 0
            near(4) = 0
            shop(3, 1, 0, 18) = 1
            ofTube(0, 4) = 0
            near(0) = 0
            remember(1, 1) = 0
            """);
        // Of TUBES that the SHOP before it had, nothing is left.
        s.run(Given.shop("b3541111110;t35490;t35490;t35490"), Given.shop("b3541111110;t34413"), Given.row(0, 0, 1), """
            sew(0, 0) = 4
            sew(0, 1) = 0
            set(1) = 3
            set(2) = NONE
            signs(-1) = 1
            signs(0) = 1
            sieve(0, 0, 0, 1, 0) = 1
            tin(9, 0) = 0
            half() = NONE
            search(0, 0, 0, 1, 0) = UNKNOWN
            """);
    }

    private void wanted() {
        s.of(3, "OUTSIDE;").run(Given.busy(), """
            wanted(-1) = OUTSIDE
            wanted(4) = OUTSIDE
            wanted(MIN) = OUTSIDE
            wanted(MAX) = OUTSIDE
            wanted(0) = 3
            wanted(3) = 7
            """);
        s.of(3, "STATE: there is no SHOP.").run(Given.sheets(), """
            wanted(0) = STATE
            wanted(3) = STATE
            wanted(4) = OUTSIDE
            wanted(-1) = OUTSIDE
            """);
    }

    private void seen() {
        s.of(4, "(0 .. 5)").run(Given.five(), "seen(0) = 5\n seen(1) = 0\n seen(5) = 2");
        s.of(4, "UNKNOWN: PLACE").run(Given.busy(), """
            seen(-1) = UNKNOWN
            seen(6) = UNKNOWN
            seen(MIN) = UNKNOWN
            seen(MAX) = UNKNOWN
            """);
        s.of(4, "STATE: there is no SHOP.").run(Given.sheets(), """
            seen(0) = STATE
            seen(5) = STATE
            seen(6) = UNKNOWN
            seen(-1) = UNKNOWN
            """);
    }

    private void ofTube() {
        s.of(5, "UNKNOWN;").run(Given.busy(), """
            ofTube(-1, 0) = UNKNOWN
            ofTube(5, 0) = UNKNOWN
            ofTube(6, 8) = UNKNOWN
            ofTube(MIN, -1) = UNKNOWN
            ofTube(MAX, 0) = UNKNOWN
            ofTube(4, 0) = 1
            """).run("ofTube(0, 8) = UNKNOWN");
        s.of(5, "OUTSIDE.").run(Given.busy(), """
            ofTube(0, -1) = OUTSIDE
            ofTube(4, 8) = OUTSIDE
            ofTube(0, MIN) = OUTSIDE
            ofTube(0, MAX) = OUTSIDE
            ofTube(0, 0) = 0
            ofTube(0, 7) = 5
            """);
    }

    private void looks() {
        s.of(5, "a SHADED one by 1 more for its COLOUR (7 at most)");
        s.run(Given.shop("b0020000000;s00200;s60200;s70200;t70200"), """
            ofTube(0, 6) = 1
            ofTube(1, 6) = 7
            ofTube(2, 6) = 7
            ofTube(3, 6) = 7
            ofTube(2, 1) = 7
            ofTube(0, 7) = 0
            """);
        s.of(5, "an OLD one by the COLOUR as a TUBE, by 1 less for its SIZE (0 at least)");
        s.run(Given.shop("b0020000000;o00200;o01200;o79200;t00200"), """
            ofTube(0, 7) = 0
            ofTube(1, 7) = 0
            ofTube(2, 7) = 8
            ofTube(3, 7) = 0
            ofTube(1, 2) = 1
            ofTube(0, 6) = 0
            ofTube(2, 6) = 7
            """);
    }

    private void remember() {
        s.of(6, "10 times REDDER, and LARGER, as it was.").run(Given.five(), """
            remember(3, 3) = 0
            remember(0, 3) = 33
            remember(3, 0) = 3
            remember(0, 0) = 30
            remember(0, 0) = 0
            """);
        s.of(6, "OUTSIDE;").run(Given.busy(), """
            remember(-1, 0) = OUTSIDE
            remember(4, 0) = OUTSIDE
            remember(0, -1) = OUTSIDE
            remember(0, 4) = OUTSIDE
            remember(MIN, MAX) = OUTSIDE
            remember(MAX, MIN) = OUTSIDE
            remember(3, 3) = 12
            """);
        s.of(6, "STATE: there is no SHOP.").run(Given.sheets(), """
            remember(0, 0) = STATE
            remember(3, 3) = STATE
            remember(4, 0) = OUTSIDE
            remember(0, -1) = OUTSIDE
            """).run(Given.sheets(), "remember(3, 3)", Given.five(), "remember(0, 0) = 0");
        s.of(6, "REDDER 0 .. 3 (so much more COLOUR, 7 at most)");
        s.run(Given.shop("b4520000000;t75200"), remembered("remember(%d, 0)", 3, 2, 1, 0));
        s.run(Given.shop("b5520000000;t75200"), remembered("remember(%d, 0)", 2, 1, 0, 0));
        s.run(Given.shop("b7520000000;t75200"), remembered("remember(%d, 0)", 0, 0, 0, 0));
        s.of(6, "LARGER 0 .. 3 (so much more SIZE, 9 at most)");
        s.run(Given.shop("b4620000000;t49200"), remembered("remember(0, %d)", 3, 2, 1, 0));
        s.run(Given.shop("b4720000000;t49200"), remembered("remember(0, %d)", 2, 1, 0, 0));
        s.run(Given.shop("b4920000000;t49200"), remembered("remember(0, %d)", 0, 0, 0, 0));
    }

    /** How FAR TUBE 0 is, by 0, 1, 2, 3 in the call. */
    private static String remembered(String call, int... fars) {
        StringBuilder rows = new StringBuilder();
        for (int more = 0; more < fars.length; more++) {
            rows.append(String.format(call, more)).append("\nfar(0) = ").append(fars[more]).append('\n');
        }
        return rows.toString();
    }

    private void near() {
        s.of(7, "v (0 .. 20)").run(Given.five(), """
            near(20) = 0
            many(3) = 20
            near(0) = 20
            many(3) = 0
            """);
        s.of(7, "OUTSIDE;").run(Given.busy(), """
            near(-1) = OUTSIDE
            near(21) = OUTSIDE
            near(MIN) = OUTSIDE
            near(MAX) = OUTSIDE
            near(3) = 3
            """);
        s.of(7, "STATE: there is no SHOP.").run(Given.sheets(), """
            near(0) = STATE
            near(20) = STATE
            near(21) = OUTSIDE
            near(-1) = OUTSIDE
            many(3) = 0
            """);
        s.of(7, "It is ALIKE, if it is no more FAR than NEAR.").run(Given.five(), Given.row(0, 0, 4), """
            near(3)
            search(0, 0, 0, 1, 1) = NONE
            near(4)
            search(0, 0, 0, 1, 1) = 4
            near(5)
            search(0, 0, 0, 1, 1) = 4
            """).run(Given.shop("b0020000000;t79400"), Given.row(0, 0, 0), """
            near(17)
            search(0, 0, 0, 1, 1) = NONE
            near(18)
            search(0, 0, 0, 1, 1) = 0
            near(20)
            search(0, 0, 0, 1, 1) = 0
            """);
    }

    private void stock() {
        s.of(8, "(COUNT 0 .. 9)").run(Given.five(), """
            stock(4, 9) = 0
            ofTube(4, 4) = 9
            stock(4, 0) = 9
            ofTube(4, 4) = 0
            """);
        s.of(8, "UNKNOWN;").run(Given.busy(), """
            stock(-1, 0) = UNKNOWN
            stock(5, 0) = UNKNOWN
            stock(MIN, 10) = UNKNOWN
            stock(MAX, -1) = UNKNOWN
            """).run("stock(0, 0) = UNKNOWN\n stock(0, 10) = UNKNOWN");
        s.of(8, "OUTSIDE.").run(Given.busy(), """
            stock(0, -1) = OUTSIDE
            stock(0, 10) = OUTSIDE
            stock(4, MIN) = OUTSIDE
            stock(4, MAX) = OUTSIDE
            """);
    }

    private void far() {
        s.of(9, "UNKNOWN.").run(Given.busy(), """
            far(-1) = UNKNOWN
            far(5) = UNKNOWN
            far(MIN) = UNKNOWN
            far(MAX) = UNKNOWN
            far(4) = 5
            """).run("far(0) = UNKNOWN");
        s.of(9, "by how much COLOUR, SIZE differ, together, and 2, if HOLES do (by how it LOOKS)");
        s.run(Given.shop("b0020000000;t00200;t79400;t79200;s79400;o79400;o01200"), """
            far(0) = 0
            far(1) = 18
            far(2) = 16
            far(3) = 18
            far(4) = 17
            far(5) = 0
            """).run(Given.shop("b7940000000;t00200;t79400;s00200;s79400;o00200;o79400"), """
            far(0) = 18
            far(1) = 0
            far(2) = 17
            far(3) = 0
            far(4) = 18
            far(5) = 1
            """);
    }
}
