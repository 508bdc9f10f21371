/** Promises 24 to 28: sheet, lose, put, cell, copy. */
public final class SheetTest {
    private static final Checks c = new Checks("SheetTest");

    public static void main(String[] args) {
        newRows();
        losing();
        cellsAreCut();
        copies();
        c.finish();
    }

    private static void fault(ButtonMatch x, String call, long got, int which) {
        c.due(call, got, -10 - which);
        c.due("fault of " + call, x.fault(), which);
    }

    private static void newRows() {
        ButtonMatch x = new ButtonMatch();
        c.row("sheet", new long[] {x.sheet(0, 0, 0), x.sheet(1, 1, 60), x.sheet(2, 2, 1), x.sheet(3, 0, 7)},
                1, 1, 1, 1);
        c.row("refused", new long[] {x.sheet(4, 0, 1), x.sheet(-1, 3, -1), x.sheet(0, 3, -1), x.sheet(0, -1, 1),
                x.sheet(0, 0, 61), x.sheet(0, 0, Integer.MAX_VALUE)}, -1, -1, -2, -2, -2, -2);
        fault(x, "length -1", x.sheet(1, 0, -1), 4);
        fault(x, "the least length", x.sheet(1, 0, Integer.MIN_VALUE), 4);
        c.due("it has its row still", x.cell(1, 59, 1), 0);
        x.put(1, 59, 7);
        c.due("put", x.cell(1, 59, 1), 7);
        c.due("a new row", x.sheet(1, 2, 60), 1);
        c.due("0 at first", x.cell(1, 59, 2), 0);
        x.put(1, 59, 7);
        x.sheet(1, 2, 3);
        c.due("a shorter one", x.put(1, 3, 1), -13);
        x.sheet(1, 2, 60);
        c.due("0 at first again", x.cell(1, 59, 2), 0);
    }

    private static void losing() {
        ButtonMatch x = new ButtonMatch();
        x.sheet(2, 0, 0);
        c.row("lose", new long[] {x.lose(2), x.lose(2), x.lose(0), x.lose(4), x.lose(-1)}, 1, 0, 0, -1, -1);
        c.due("it has nothing", x.put(2, 0, 0), -11);
        x.lose(2);
        c.due("lose names no FAULT", x.fault(), 1);
    }

    private static void cellsAreCut() {
        ButtonMatch x = new ButtonMatch();
        int[] numbers = {0, 127, 128, -129, 255, 32767, 32768, -32769, 65535, Integer.MIN_VALUE, Integer.MAX_VALUE};
        for (int v : numbers) {
            Coats.write(x, 0, 0, v);
            Coats.write(x, 1, 1, v);
            Coats.write(x, 2, 2, v);
            c.row("cells by " + v, new long[] {x.cell(0, 0, 0), x.cell(1, 0, 1), x.cell(2, 0, 2)},
                    (byte) v, (short) v, v);
        }
    }

    private static long[] cells(ButtonMatch x, int sheet, int lane, int n) {
        long[] cells = new long[n];
        for (int i = 0; i < n; i++) {
            cells[i] = x.cell(sheet, i, lane);
        }
        return cells;
    }

    private static void copies() {
        ButtonMatch x = new ButtonMatch();
        Coats.write(x, 0, 2, 1, 2, 3, 4, 5);
        Coats.write(x, 1, 2, 9, 9, 9);
        c.due("copy", x.copy(0, 3, 1, 1, 2), 2);
        c.row("copied", cells(x, 1, 2, 3), 9, 4, 5);
        c.row("as it was", cells(x, 0, 2, 5), 1, 2, 3, 4, 5);
        c.due("to the right in itself", x.copy(0, 0, 0, 1, 4), 4);
        c.row("as they were", cells(x, 0, 2, 5), 1, 1, 2, 3, 4);
        c.due("to the left in itself", x.copy(0, 1, 0, 0, 4), 4);
        c.row("as they were", cells(x, 0, 2, 5), 1, 2, 3, 4, 4);
        c.due("none at both ends", x.copy(0, 5, 1, 3, 0), 0);
        c.due("all", x.copy(1, 0, 0, 2, 3), 3);
        c.row("all of them", cells(x, 0, 2, 5), 1, 2, 9, 4, 5);
    }
}
