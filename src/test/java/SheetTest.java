/** Promises 24 to 28, and 33: sheet, lose, put, cell, copy, fault. */
public final class SheetTest {
    private static final Checks c = new Checks("SheetTest");

    public static void main(String[] args) {
        newRows();
        losing();
        cellsAreCut();
        putFaults();
        cellFaults();
        copies();
        copyFaults();
        faultOfTheLatestCall();
        c.finish();
    }

    private static void fault(ButtonMatch x, String call, long got, int which) {
        c.due(call, got, -10 - which);
        c.due("fault of " + call, x.fault(), which);
    }

    private static void newRows() {
        ButtonMatch x = new ButtonMatch();
        c.row("sheet", new long[] {x.sheet(0, 0, 0), x.sheet(1, 1, 60), x.sheet(2, 2, 1), x.sheet(3, 0, 7)},
                1, 1, 1, 1);
        c.row("refused", new long[] {x.sheet(4, 0, 1), x.sheet(-1, 3, -1), x.sheet(0, 3, -1), x.sheet(0, -1, 1),
                x.sheet(0, 0, 61), x.sheet(0, 0, Integer.MAX_VALUE)}, -1, -1, -2, -2, -2, -2);
        fault(x, "length -1", x.sheet(1, 0, -1), 4);
        fault(x, "the least length", x.sheet(1, 0, Integer.MIN_VALUE), 4);
        c.due("it has its row still", x.cell(1, 59, 1), 0);
        x.put(1, 59, 7);
        c.due("put", x.cell(1, 59, 1), 7);
        c.due("a new row", x.sheet(1, 2, 60), 1);
        c.due("0 at first", x.cell(1, 59, 2), 0);
        x.put(1, 59, 7);
        x.sheet(1, 2, 3);
        c.due("a shorter one", x.put(1, 3, 1), -13);
        x.sheet(1, 2, 60);
        c.due("0 at first again", x.cell(1, 59, 2), 0);
    }

    private static void losing() {
        ButtonMatch x = new ButtonMatch();
        x.sheet(2, 0, 0);
        c.row("lose", new long[] {x.lose(2), x.lose(2), x.lose(0), x.lose(4), x.lose(-1)}, 1, 0, 0, -1, -1);
        c.due("it has nothing", x.put(2, 0, 0), -11);
        x.lose(2);
        c.due("lose names no FAULT", x.fault(), 1);
    }

    private static void cellsAreCut() {
        ButtonMatch x = new ButtonMatch();
        int[] numbers = {0, 127, 128, -129, 255, 32767, 32768, -32769, 65535, Integer.MIN_VALUE, Integer.MAX_VALUE};
        for (int v : numbers) {
            Coats.write(x, 0, 0, v);
            Coats.write(x, 1, 1, v);
            Coats.write(x, 2, 2, v);
            c.row("cells by " + v, new long[] {x.cell(0, 0, 0), x.cell(1, 0, 1), x.cell(2, 0, 2)},
                    (byte) v, (short) v, v);
        }
    }

    private static void putFaults() {
        ButtonMatch x = new ButtonMatch();
        x.sheet(0, 0, 2);
        c.row("put", new long[] {x.put(0, 0, 5), x.put(0, 1, 6), x.cell(0, 0, 0), x.cell(0, 1, 0)}, 1, 1, 5, 6);
        c.row("refused", new long[] {x.put(-1, 9, 0), x.put(4, 0, 0)}, -1, -1);
        fault(x, "nothing", x.put(1, -1, 0), 1);
        fault(x, "ahead", x.put(0, -1, 0), 3);
        fault(x, "behind", x.put(0, 2, 0), 3);
        fault(x, "far behind", x.put(0, Integer.MAX_VALUE, 0), 3);
        x.put(0, 0, 1);
        c.due("no fault", x.fault(), 0);
    }

    private static void cellFaults() {
        ButtonMatch x = new ButtonMatch();
        x.sheet(0, 1, 2);
        lost(x, "sheet 4", x.cell(4, 0, 0), 0);
        lost(x, "sheet -1", x.cell(-1, 9, 9), 0);
        lost(x, "lane 3", x.cell(0, 0, 3), 0);
        lost(x, "lane -1, of nothing", x.cell(1, 0, -1), 0);
        lost(x, "another lane", x.cell(0, 9, 0), 2);
        lost(x, "nothing", x.cell(1, 9, 0), 1);
        lost(x, "behind", x.cell(0, 2, 1), 3);
        lost(x, "ahead", x.cell(0, -1, 1), 3);
        lost(x, "as far as can be", x.cell(0, Integer.MAX_VALUE, 1), 3);
        lost(x, "a refusal behind a fault", x.cell(4, 0, 0), 0);
        c.due("cell", x.cell(0, 1, 1), 0);
        c.due("no fault", x.fault(), 0);
    }

    private static void lost(ButtonMatch x, String call, long got, int which) {
        c.due(call, got, ButtonMatch.LOST);
        c.due("fault of " + call, x.fault(), which);
    }

    private static long[] cells(ButtonMatch x, int sheet, int lane, int n) {
        long[] cells = new long[n];
        for (int i = 0; i < n; i++) {
            cells[i] = x.cell(sheet, i, lane);
        }
        return cells;
    }

    private static void copies() {
        ButtonMatch x = new ButtonMatch();
        Coats.write(x, 0, 2, 1, 2, 3, 4, 5);
        Coats.write(x, 1, 2, 9, 9, 9);
        c.due("copy", x.copy(0, 3, 1, 1, 2), 2);
        c.row("copied", cells(x, 1, 2, 3), 9, 4, 5);
        c.row("as it was", cells(x, 0, 2, 5), 1, 2, 3, 4, 5);
        c.due("to the right in itself", x.copy(0, 0, 0, 1, 4), 4);
        c.row("as they were", cells(x, 0, 2, 5), 1, 1, 2, 3, 4);
        c.due("to the left in itself", x.copy(0, 1, 0, 0, 4), 4);
        c.row("as they were", cells(x, 0, 2, 5), 1, 2, 3, 4, 4);
        c.due("none at both ends", x.copy(0, 5, 1, 3, 0), 0);
        c.due("all", x.copy(1, 0, 0, 2, 3), 3);
        c.row("all of them", cells(x, 0, 2, 5), 1, 2, 9, 4, 5);
    }

    private static void copyFaults() {
        ButtonMatch x = new ButtonMatch();
        Coats.write(x, 0, 2, 1, 2, 3);
        Coats.write(x, 1, 2, 4, 5);
        x.sheet(2, 1, 9);
        c.row("refused", new long[] {x.copy(4, 0, 0, 0, 1), x.copy(-1, 0, 0, 0, 1), x.copy(3, 0, 4, 0, 1),
                x.copy(3, 0, -1, 0, 1)}, -1, -1, -1, -1);
        c.due("fault of a refusal", x.fault(), 0);
        fault(x, "the first is nothing", x.copy(3, -1, 0, -1, -1), 1);
        fault(x, "the other is nothing", x.copy(0, -1, 3, -1, -1), 1);
        fault(x, "unlike LANES", x.copy(0, -1, 2, -1, -1), 2);
        fault(x, "n below 0", x.copy(0, 0, 1, 0, -1), 3);
        fault(x, "i below 0", x.copy(0, -1, 1, 0, 0), 3);
        fault(x, "j below 0", x.copy(0, 0, 1, -1, 0), 3);
        fault(x, "i beyond", x.copy(0, 2, 1, 0, 2), 3);
        fault(x, "j beyond", x.copy(0, 0, 1, 1, 2), 3);
        fault(x, "none, i beyond", x.copy(0, 4, 1, 0, 0), 3);
        fault(x, "none, j beyond", x.copy(0, 0, 1, 3, 0), 3);
        int most = Integer.MAX_VALUE;
        fault(x, "numbers that wrap", x.copy(0, most, 1, most, most), 3);
        fault(x, "a length that wraps", x.copy(0, 1, 1, 1, most), 3);
        c.row("nothing is changed", cells(x, 1, 2, 2), 4, 5);
    }

    /** Calls that name no FAULT leave it as it is; each that names one begins anew. */
    private static void faultOfTheLatestCall() {
        ButtonMatch x = Coats.with(Coats.FIVE);
        x.sheet(1, 2, -1);
        c.due("SIZE", x.fault(), 4);
        x.wanted(0);
        x.seen(9);
        x.ofTube(0, 0);
        x.remember(0, 0);
        x.near(0);
        x.stock(0, 0);
        x.far(0);
        x.quick(0);
        x.signs(0);
        x.sew(0, 0);
        x.set(1);
        x.tin(0, 0);
        x.half();
        x.reading(0, true);
        x.back(0);
        x.memories(0);
        x.kinds(0);
        x.colours(0);
        x.nears();
        x.lose(0);
        x.tell(0);
        x.rattle(0);
        x.trace();
        x.fault();
        x.many(0);
        c.due("SIZE still", x.fault(), 4);
        for (int call = 0; call < 16; call++) {
            x.sheet(1, 2, -1);
            naming(x, call);
            c.due("without a fault, call " + call, x.fault(), 0);
        }
    }

    private static void naming(ButtonMatch x, int call) {
        switch (call) {
            case 0: x.shop(3, 0, 0, 46); return;
            case 1: x.shop(3, 0, 0, 45); return;
            case 2: x.shop(4, 0, 0, 46); return;
            case 3: x.search(3, 0, 0, 0, 0); return;
            case 4: x.search(3, 0, 0, 1, 0); return;
            case 5: x.sieve(3, 0, 0, 0, 0); return;
            case 6: x.sieve(3, 0, 0, 1, 0); return;
            case 7: x.sheet(1, 2, 1); return;
            case 8: x.sheet(1, 2, 61); return;
            case 9: x.put(3, 0, 'b'); return;
            case 10: x.put(4, 0, 0); return;
            case 11: x.cell(3, 0, 0); return;
            case 12: x.copy(3, 0, 3, 0, 1); return;
            case 13: x.copy(4, 0, 3, 0, 1); return;
            case 14: x.as(0, 0); return;
            default: x.as(9, 0);
        }
    }
}
