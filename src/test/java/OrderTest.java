/** Promises 12 to 17: quick, signs, sew, set, tin, half. */
public final class OrderTest {
    private static final Checks c = new Checks("OrderTest");

    public static void main(String[] args) {
        quickOrders();
        signOrders();
        sewings();
        sets();
        tins();
        halves();
        c.finish();
    }

    private static void quickOrders() {
        String text = "b0020000000";
        for (int n = 1; n <= 6; n++) {
            text += ";t00200";
            ButtonMatch x = Coats.with(text);
            c.due("quick of " + n, x.quick(-1), leastTogether(n, 0, 0, 0));
            for (int k = 0; k < n; k++) {
                c.due("quick of " + n + " at " + k, x.quick(k), k);
            }
            c.due("quick of fewer", x.quick(n), ButtonMatch.NONE);
            c.due("quick of far fewer", x.quick(Integer.MAX_VALUE), ButtonMatch.NONE);
            c.due("quick -2", x.quick(-2), ButtonMatch.UNKNOWN);
            c.due("quick of the least", x.quick(Integer.MIN_VALUE), ButtonMatch.UNKNOWN);
        }
    }

    /** By every order: what is least of the SECONDS together, for the TUBES that are not yet met. */
    private static int leastTogether(int n, int met, int at, int seconds) {
        if (met == (1 << n) - 1) {
            return 0;
        }
        int least = Integer.MAX_VALUE;
        for (int t = 0; t < n; t++) {
            if ((met >> t & 1) == 0) {
                int then = seconds + Math.abs(t - at) + 1;
                least = Math.min(least, then + leastTogether(n, met | 1 << t, t, then));
            }
        }
        return least;
    }

    private static long[] signed(ButtonMatch x) {
        return new long[] {x.signs(-1), x.signs(0), x.signs(1), x.signs(2)};
    }

    private static void signOrders() {
        c.row("all alike: the first as a row", signed(Coats.with("b3540000000;t35400;t35400")), 6, 0, 1, 2);
        c.row("HOLES leave none", signed(Coats.with("b3540000000;t35200;t35200")), 2, 2, 0, 1);
        c.row("SIZE leaves one, then COLOUR none",
                signed(Coats.with("b3540000000;t36400;t37400;t15400;t38400")), 4 + 1, 1, 0, 2);
        c.row("HOLES leave one, then SIZE none",
                signed(Coats.with("b3540000000;t35200;t35200;t36400;t15200")), 4 + 1, 2, 1, 0);
        ButtonMatch x = Coats.with("b3540000000;s25400;o36400;t34400;t35200");
        c.row("by how they LOOK", signed(x), 4 + 3 + 2, 1, 2, 0);
        x.remember(1, 0);
        c.row("as REMEMBERED", signed(x), 4, 0, 1, 2);
        c.row("outside", new long[] {x.signs(-2), x.signs(3)}, -2, -2);
    }

    private static long[] sewn(ButtonMatch x, int place) {
        return new long[] {x.sew(place, 0), x.sew(place, 1), x.sew(place, 2)};
    }

    private static void sewings() {
        ButtonMatch x = Coats.with("b3549014572;t55414;t37401;t75411");
        c.row("moved up from where none sees", sewn(x, 0), 4 * 0 + 1 + 2, 2, 1);
        x.stock(2, 0);
        c.row("by TUBE 0 as well", sewn(x, 0), 4 + 2, 0, 1);
        c.row("without SEWING", sewn(x, 1), 4, 0, 1);
        c.row("one SEEN a little", sewn(x, 2), 6, 0, 1);
        x.stock(0, 0);
        c.row("none has any", sewn(x, 0), -9, -9, -9);
        ButtonMatch same = Coats.with("b3541111110;o36413;s25413;t35413");
        c.row("of several the least TUBE, then PLACE", sewn(same, 4), 3, 0, 0);
        ButtonMatch wanted = Coats.with("b3541111119;t45410;t35411");
        wanted.remember(1, 0);
        c.row("from the WANTED one itself", sewn(wanted, 5), 1, 0, 5);
        ButtonMatch looks = Coats.with("b3549999999;s35410;s25411;o35412");
        c.row("by how it LOOKS", sewn(looks, 3), 1, 1, 3);
        c.row("place", new long[] {x.sew(-1, 3), x.sew(6, 0), x.sew(0, 3), x.sew(5, -1)}, -1, -1, -2, -2);
    }

    private static void sets() {
        ButtonMatch x = Coats.with("b3540000000;t35493;t35451;t35440;t35415");
        long[] got = new long[11];
        for (int n = 0; n < 11; n++) {
            got[n] = x.set(n);
        }
        c.row("set", got, -2, 0, 0, 0, 0, 5, 18, 21, 24, 27, -2);
        x.stock(0, 8);
        c.due("no TUBE has so many", x.set(9), ButtonMatch.NONE);
        c.due("set of the least", x.set(Integer.MIN_VALUE), ButtonMatch.OUTSIDE);
    }

    private static void share(ButtonMatch x, int k, long upper, long lower) {
        c.row("tin " + k, new long[] {x.tin(k, 0), x.tin(k, 1)}, upper, lower);
    }

    private static void tins() {
        ButtonMatch x = Coats.with("b3540000000;t35420;t00220;t36420");
        share(x, 0, 0, 1);
        share(x, 1, 1, 3);
        share(x, 2, 3, 5);
        share(x, 4, 14, 15);
        share(x, 5, 1, 1);
        share(x, 9, 1, 1);
        x.near(1);
        share(x, 1, 2, 3);
        x.near(0);
        x.remember(0, 3);
        share(x, 6, 0, 1);
        share(x, 9, 0, 1);
        ButtonMatch most = Coats.with("b3540000000;t35410;t00290;t00290;t00290;t00290;t00290");
        share(most, 9, 9, 46);
        most.stock(0, 9);
        share(most, 9, 68181125, 81814404);
        for (int wrong : new int[] {-1, 10, Integer.MIN_VALUE}) {
            c.due("tin " + wrong, most.tin(wrong, 0), ButtonMatch.LOST);
        }
        c.due("which 2", most.tin(0, 2), ButtonMatch.LOST);
        c.due("which -1", most.tin(0, -1), ButtonMatch.LOST);
    }

    private static void halves() {
        ButtonMatch x = Coats.with("b3540000000;t35410;t00290;t00290;t00290;t00290;t00290");
        c.due("1 of 46", x.half(), 23);
        x.stock(1, 8);
        c.due("1 of 45", x.half(), 23);
        x.stock(0, 9);
        c.due("9 of 53", x.half(), 4);
        x.stock(0, 0);
        c.due("never", x.half(), ButtonMatch.NONE);
        x.near(20);
        c.due("all ALIKE", x.half(), 1);
        ButtonMatch even = Coats.with("b3540000000;t35410;t00210");
        c.due("one half at least", even.half(), 1);
        even.stock(1, 0);
        c.due("by all of them", even.half(), 1);
        even.stock(0, 0);
        c.due("no button", even.half(), ButtonMatch.NONE);
        share(even, 3, 0, 1);
    }
}
