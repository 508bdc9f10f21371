/** Promises 29 to 32, and 34: tell, rattle, as, trace, many. */
public final class PartTest {
    private static final Checks c = new Checks("PartTest");

    public static void main(String[] args) {
        tellings();
        rattlings();
        traceWraps();
        asKinds();
        counts();
        c.finish();
    }

    private static int traced(int before, int... bodies) {
        int trace = before;
        for (int body : bodies) {
            trace = 31 * trace + body;
        }
        return trace;
    }

    private static void tellings() {
        ButtonMatch x = Coats.with("b3540000000;t35497;s35498;o35499;o35490");
        c.due("TUBE", x.tell(0), 7);
        int due = traced(0, 1);
        c.due("trace", x.trace(), due);
        c.due("SHADED", x.tell(1), 108);
        due = traced(due, 2, 1);
        c.due("trace", x.trace(), due);
        c.due("OLD", x.tell(2), 118);
        due = traced(due, 3, 2, 1, 1);
        c.due("trace", x.trace(), due);
        c.due("OLD for nothing", x.tell(3), 100);
        due = traced(due, 3, 2, 1, 1);
        c.due("TUBE 4", x.tell(4), ButtonMatch.UNKNOWN);
        c.due("TUBE -1", x.tell(-1), ButtonMatch.UNKNOWN);
        c.due("a refusal leaves no trace", x.trace(), due);
        c.due("without a SHOP", new ButtonMatch().tell(0), ButtonMatch.UNKNOWN);
    }

    private static void rattlings() {
        ButtonMatch x = Coats.with("b3540000000;t35497;s35498;o35499;s35490");
        c.row("rattle", new long[] {x.rattle(0), x.rattle(1), x.rattle(2), x.rattle(3), x.rattle(4), x.rattle(-1)},
                0, 1, 50, 3, -1, -1);
        c.due("trace", x.trace(), traced(0, 4, 4, 5, 4));
        c.due("without a SHOP", new ButtonMatch().rattle(0), ButtonMatch.UNKNOWN);
    }

    private static void traceWraps() {
        ButtonMatch x = Coats.with("b3540000000;o35499");
        int due = 0;
        for (int i = 0; i < 20; i++) {
            x.tell(0);
            due = traced(due, 3, 2, 1, 1);
            c.due("trace " + i, x.trace(), due);
        }
    }

    private static void asKinds() {
        ButtonMatch x = Coats.with("b3540000000;t35497;s35498;o35499");
        long[] got = new long[9];
        for (int t = 0; t < 3; t++) {
            for (int kind = 0; kind < 3; kind++) {
                got[3 * t + kind] = x.as(t, kind);
                c.due("fault", x.fault(), got[3 * t + kind] == 1 ? 0 : 2);
            }
        }
        c.row("as", got, 1, -12, -12, 1, 1, -12, 1, 1, 1);
        c.row("refused", new long[] {x.as(3, 3), x.as(-1, 0), x.as(0, 3), x.as(0, -1)}, -1, -1, -2, -2);
        c.due("without a SHOP", new ButtonMatch().as(0, 9), ButtonMatch.UNKNOWN);
    }

    private static void counts() {
        ButtonMatch x = Coats.with(Coats.FIVE);
        x.near(4);
        x.reading(0, true);
        x.reading(0, false);
        c.row("many", new long[] {x.many(-1), x.many(0), x.many(1), x.many(2), x.many(3), x.many(4)},
                -2, 5, 15, 2, 4, -2);
        c.due("most buttons", Coats.with("b3540000000;t00290;t00290;t00290;t00290;t00290;t00290").many(1), 54);
        c.due("without a SHOP", new ButtonMatch().many(4), ButtonMatch.OUTSIDE);
    }
}
