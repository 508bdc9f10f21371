/** Promises 12 to 17 at their boundaries: quick, signs, sew, set, tin, half. */
final class OrderSentences {
    private final Sentences s;

    OrderSentences(Sentences s) {
        this.s = s;
    }

    void all() {
        quick();
        signs();
        sewRefusals();
        sewing();
        set();
        tin();
        shares();
        half();
    }

    private void quick() {
        s.of(12, "NONE: there are fewer.").run(Given.five(), """
            quick(4) = 4
            quick(5) = NONE
            quick(6) = NONE
            quick(MAX) = NONE
            """).run(Given.shop(Given.ONE), "quick(0) = 0\n quick(1) = NONE")
            .run(Given.shop(Given.SIX), "quick(5) = 5\n quick(6) = NONE");
        s.of(12, "UNKNOWN: k below -1").run(Given.busy(), """
            quick(-2) = UNKNOWN
            quick(MIN) = UNKNOWN
            quick(-1) = 25
            """).run("quick(-2) = UNKNOWN");
        s.of(12, "STATE: there is no SHOP.").run(Given.sheets(), """
            quick(-1) = STATE
            quick(0) = STATE
            quick(MAX) = STATE
            """);
        s.of(12, "(with none FOUND ahead) are together the least: of several the first as a row.");
        s.run(Given.shop(Given.ONE), "near(20)\n quick(-1) = 1\n quick(0) = 0");
        s.run(Given.shop(Given.SIX), """
            near(20)
            quick(-1) = 36
            quick(0) = 0
            quick(1) = 1
            quick(2) = 2
            quick(3) = 3
            quick(4) = 4
            quick(5) = 5
            """);
    }

    private void signs() {
        s.of(13, "its k-th sign (0 .. 2).").run(Given.busy(), """
            signs(-1) = 5
            signs(0) = 1
            signs(1) = 0
            signs(2) = 2
            """);
        s.of(13, "OUTSIDE;").run(Given.busy(), """
            signs(-2) = OUTSIDE
            signs(3) = OUTSIDE
            signs(MIN) = OUTSIDE
            signs(MAX) = OUTSIDE
            """);
        s.of(13, "STATE: there is no SHOP.").run(Given.sheets(), """
            signs(-1) = STATE
            signs(2) = STATE
            signs(3) = OUTSIDE
            signs(-2) = OUTSIDE
            """);
        s.of(13, "the order of all three by which a SIEVING takes the least SECONDS: of several the first as a row.");
        signRow("b3540000000;t35400;t35400", 6, 0, 1, 2);
        signRow("b3540000000;t35200;t35200", 2, 2, 0, 1);
        signRow("b3540000000;t36400;t36400", 2, 1, 0, 2);
        signRow("b3540000000;t35200;t36400", 3, 1, 2, 0);
        signRow("b3540000000;t45200;t36400", 3, 0, 1, 2);
        signRow("b3540000000;t35200;t45400", 3, 0, 2, 1);
        signRow("b3540000000;t35200;t35200;t36400;t15200", 5, 2, 1, 0);
        signRow("b3540000000;t36400;t37400;t15400;t38400", 5, 1, 0, 2);
    }

    private void signRow(String text, int... due) {
        s.run(Given.shop(text), String.format("signs(-1) = %d\n signs(0) = %d\n signs(1) = %d\n signs(2) = %d", due[0],
                due[1], due[2], due[3]));
    }

    private void sewRefusals() {
        s.of(14, "UNKNOWN: PLACE").run(Given.busy(), """
            sew(-1, 0) = UNKNOWN
            sew(6, 0) = UNKNOWN
            sew(MIN, 3) = UNKNOWN
            sew(MAX, -1) = UNKNOWN
            sew(0, 2) = 0
            sew(5, 2) = 5
            """).run("sew(6, 0) = UNKNOWN\n sew(-1, 3) = UNKNOWN");
        s.of(14, "OUTSIDE: what").run(Given.busy(), """
            sew(0, -1) = OUTSIDE
            sew(5, 3) = OUTSIDE
            sew(0, MIN) = OUTSIDE
            sew(0, MAX) = OUTSIDE
            """).run("sew(0, 3) = OUTSIDE\n sew(5, -1) = OUTSIDE");
        s.of(14, "STATE: there is no SHOP.").run(Given.sheets(), """
            sew(0, 0) = STATE
            sew(5, 2) = STATE
            """);
        s.of(14, "NONE: no TUBE has any.").run(Given.shop("b3545018327;t35402;s25401;o36200"), """
            sew(0, 0) = NONE
            sew(0, 1) = NONE
            sew(5, 2) = NONE
            stock(2, 1)
            sew(0, 1) = 2
            """);
    }

    private void sewing() {
        s.of(14, "a TUBE with a COUNT of 1 or more goes to a PLACE").run(Given.shop("b3541111119;t35400;t35419"), """
            sew(0, 0) = 9
            sew(0, 1) = 1
            stock(0, 1)
            sew(0, 0) = 0
            sew(0, 1) = 0
            stock(1, 0)
            stock(0, 0)
            sew(0, 1) = NONE
            """);
        s.of(14, "that one, or another one, from which the old one is moved up (then SEWING more)");
        s.run(Given.shop("b3549014572;t55414;t37401;t75411"), """
            sew(0, 0) = 3
            sew(0, 1) = 2
            sew(0, 2) = 1
            sew(1, 0) = 1
            sew(1, 2) = 1
            """).run(Given.shop("b0029999999;t79419"), "sew(0, 0) = 171\n sew(0, 2) = 0\n sew(5, 2) = 5")
            .run(Given.shop("b0029999909;t79419"), "sew(0, 0) = 18\n sew(0, 2) = 5\n sew(5, 0) = 9");
        s.of(14, "the least; of several the least TUBE, then PLACE.");
        s.run(Given.shop("b3541111110;o36413;s25413;t35413"), "sew(4, 0) = 3\n sew(4, 1) = 0\n sew(4, 2) = 0");
        s.run(Given.shop("b3541111111;t45410;t45410"), "sew(4, 0) = 1\n sew(4, 1) = 0\n sew(4, 2) = 4");
        s.run(Given.shop("b3549190991;t45410"), "sew(1, 0) = 1\n sew(1, 2) = 1\n sew(5, 2) = 3");
        s.run(Given.shop("b3540999911;t35413;t55412"), "sew(5, 0) = 3\n sew(5, 1) = 0\n sew(5, 2) = 5");
        s.run(Given.shop("b3541111111;t45410;t45410;t45410;t45410;t45410;t35410"), "sew(0, 0) = 0\n sew(0, 1) = 5");
        s.of(14, "HARM: how FAR it is from the WANTED one itself (by how it LOOKS)");
        s.run(Given.shop("b3549999999;s35410;s25411;o36412"), """
            remember(1, 0)
            sew(3, 0) = 1
            sew(3, 1) = 1
            stock(1, 0)
            sew(3, 0) = 2
            sew(3, 1) = 2
            """);
    }

    private void set() {
        s.of(15, "SET of n (1 .. 9)").run(Given.shop("b3540000000;t35493;t35419"), "set(1) = 3\n set(9) = 27");
        s.of(15, "NONE: no TUBE has so many.").run(Given.shop("b3540000000;t35453;t35440"), """
            set(4) = 0
            set(5) = 15
            set(6) = NONE
            set(9) = NONE
            stock(0, 0)
            stock(1, 0)
            set(1) = NONE
            """);
        s.of(15, "OUTSIDE;").run(Given.busy(), """
            set(0) = OUTSIDE
            set(10) = OUTSIDE
            set(-1) = OUTSIDE
            set(MIN) = OUTSIDE
            set(MAX) = OUTSIDE
            """);
        s.of(15, "STATE: there is no SHOP.").run(Given.sheets(), """
            set(1) = STATE
            set(9) = STATE
            set(0) = OUTSIDE
            set(10) = OUTSIDE
            """);
        s.of(15, "for n buttons of one TUBE, that has them.").run(Given.shop("b3540000000;t35451;t35440;t35499"), """
            set(4) = 0
            set(5) = 5
            set(6) = 54
            set(9) = 81
            stock(2, 8)
            set(9) = NONE
            """).run(Given.shop("b3540000000;t35419;t35419;t35419;t35419;t35419;t35491"), "set(1) = 1\n set(9) = 9");
    }

    private void tin() {
        s.of(16, "TIN by k (0 .. 9; all, if there are fewer;").run(Given.shop("b3540000000;t35410;t00220"), """
            tin(0, 0) = 0
            tin(0, 1) = 1
            tin(2, 0) = 2
            tin(2, 1) = 3
            tin(3, 0) = 1
            tin(3, 1) = 1
            tin(4, 0) = 1
            tin(9, 1) = 1
            near(20)
            tin(0, 0) = 0
            tin(0, 1) = 1
            tin(1, 0) = 1
            """).run(Given.shop("b3540000000;t35400;t00230"), "tin(9, 0) = 0\n tin(9, 1) = 1\n tin(3, 1) = 1");
        s.of(16, "LOST: OUTSIDE;").run(Given.busy(), """
            tin(-1, 0) = LOST
            tin(10, 0) = LOST
            tin(MIN, 0) = LOST
            tin(MAX, 1) = LOST
            tin(0, -1) = LOST
            tin(0, 2) = LOST
            tin(9, MIN) = LOST
            tin(9, MAX) = LOST
            tin(9, 0) = 11439
            tin(9, 1) = 11440
            """);
        s.of(16, "STATE: there is no SHOP.").run(Given.sheets(), """
            tin(0, 0) = LOST
            tin(9, 1) = LOST
            """);
    }

    private void shares() {
        s.of(16, "in least terms.").run(Given.shop("b3540000000;t35420;t00240"), """
            tin(0, 1) = 1
            tin(1, 0) = 1
            tin(1, 1) = 3
            tin(2, 0) = 3
            tin(2, 1) = 5
            tin(5, 0) = 1
            tin(5, 1) = 1
            """);
        s.of(16, "Shares are told as upper and lower number (above 0)").run(Given.shop("b3540000000;t35420;t00240"), """
            tin(0, 0) = 0
            tin(0, 1) = 1
            stock(0, 0)
            tin(3, 0) = 0
            tin(3, 1) = 1
            stock(1, 0)
            tin(0, 0) = 0
            tin(0, 1) = 1
            tin(9, 0) = 0
            tin(9, 1) = 1
            """);
        s.of(16, "drawn one behind another, not put back: how likely there is one ALIKE among the first k.");
        s.run(Given.shop("b3540000000;t35410;t00290;t00290;t00290;t00290;t00290"), """
            tin(9, 0) = 9
            tin(9, 1) = 46
            stock(0, 9)
            tin(9, 0) = 68181125
            tin(9, 1) = 81814404
            """).run(Given.shop("b3540000000;t35410;t00210"), """
            tin(1, 0) = 1
            tin(1, 1) = 2
            tin(2, 0) = 1
            tin(2, 1) = 1
            """);
    }

    private void half() {
        s.of(17, "HALF (of 0 .. all of them)").run(Given.shop("b3540000000;t35410"), "half() = 1")
            .run(Given.shop("b3540000000;t35410;t00290;t00290;t00290;t00290;t00290"), """
            half() = 23
            stock(0, 9)
            half() = 4
            near(20)
            half() = 1
            """);
        s.of(17, "NONE: never.").run(Given.shop("b3540000000;t35400;t00290"), """
            half() = NONE
            stock(1, 0)
            half() = NONE
            stock(0, 1)
            half() = 1
            """);
        s.of(17, "STATE: there is no SHOP.").run(Given.sheets(), "half() = STATE");
        s.of(17, "HALF: the fewest k by which that is one half at least.");
        s.run(Given.shop("b3540000000;t35410;t00210"), """
            half() = 1
            stock(1, 2)
            half() = 2
            stock(1, 3)
            half() = 2
            stock(1, 4)
            half() = 3
            stock(0, 4)
            half() = 1
            stock(0, 3)
            half() = 2
            """);
    }
}
