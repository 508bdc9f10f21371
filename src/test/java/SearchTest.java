/** Promises 10 and 11: search, sieve. */
public final class SearchTest {
    private static final Checks c = new Checks("SearchTest");

    public static void main(String[] args) {
        searches();
        searchEdges();
        searchRefusals();
        sievings();
        sieveRefusals();
        c.finish();
    }

    private static long[] searched(ButtonMatch x, int... row) {
        Coats.write(x, 1, 0, row);
        int n = row.length;
        return new long[] {x.search(1, 0, 0, n, 0), x.search(1, 0, 0, n, 1), x.search(1, 0, 0, n, 2)};
    }

    private static void searches() {
        ButtonMatch x = Coats.with(Coats.FIVE);
        c.row("TUBE 0 at once", searched(x, 0, 4, 4), 1, 0, 1);
        c.row("4, then 1", searched(x, 4, 1, 0), 5 + 4, 1, 2);
        c.row("none is found", searched(x, 4, 2, 3), 5 + 3 + 2, -9, 3);
        c.row("the same one again", searched(x, 4, 4, 4), 5 + 1 + 1, -9, 3);
        x.near(1);
        c.row("just near enough", searched(x, 4, 3, 0), 5 + 2, 3, 2);
        x.remember(1, 0);
        x.near(0);
        c.row("REMEMBERED redder", searched(x, 0, 1, 3, 2), 1 + 2 + 3, 3, 3);
        x.stock(3, 0);
        c.row("a COUNT of 0 is found, too", searched(x, 3), 4, 3, 1);
    }

    private static void searchEdges() {
        ButtonMatch x = Coats.with(Coats.FIVE);
        int[] twenty = new int[21];
        for (int i = 0; i < 21; i++) {
            twenty[i] = i % 2 == 0 ? 4 : 2;
        }
        Coats.write(x, 1, 2, twenty);
        c.due("twenty cells", x.search(1, 2, 1, 20, 0), 3 + 19 * 3);
        c.due("twenty cells, looked at", x.search(1, 2, 1, 20, 2), 20);
        c.due("none of them", x.search(1, 2, 21, 0, 0), 0);
        c.due("none is found", x.search(1, 2, 21, 0, 1), ButtonMatch.NONE);
        c.due("none behind the row", x.search(1, 2, 22, 0, 0), -13);
        c.due("none ahead of the row", x.search(1, 2, -1, 0, 0), -13);
        c.due("fault", x.fault(), 3);
    }

    private static void searchRefusals() {
        ButtonMatch x = new ButtonMatch();
        Coats.write(x, 1, 1, 0, 5, -1);
        c.due("sheet 4", x.search(4, 9, 9, 99, 9), ButtonMatch.UNKNOWN);
        c.due("sheet -1", x.search(-1, 0, 0, 0, 0), ButtonMatch.UNKNOWN);
        c.due("lane 3", x.search(1, 3, 0, 1, 0), ButtonMatch.OUTSIDE);
        c.due("lane -1", x.search(0, -1, 0, 1, 0), ButtonMatch.OUTSIDE);
        c.due("n 21", x.search(1, 1, 0, 21, 0), ButtonMatch.OUTSIDE);
        c.due("n -1", x.search(1, 1, 0, -1, 0), ButtonMatch.OUTSIDE);
        c.due("what 3", x.search(1, 1, 0, 1, 3), ButtonMatch.OUTSIDE);
        c.due("what -1", x.search(1, 1, 0, 1, -1), ButtonMatch.OUTSIDE);
        c.due("another lane", x.search(1, 0, 9, 1, 0), -12);
        c.due("fault", x.fault(), 2);
        c.due("nothing", x.search(0, 0, 9, 1, 0), -11);
        c.due("fault", x.fault(), 1);
        c.due("beyond", x.search(1, 1, 1, 3, 0), -13);
        c.due("fault", x.fault(), 3);
        c.due("no SHOP", x.search(1, 1, 0, 3, 0), ButtonMatch.STATE);
        c.due("fault of a refusal", x.fault(), 0);
        Coats.told(x, Coats.FIVE);
        c.due("beyond, a TUBE that is none, too", x.search(1, 1, 1, 3, 0), -13);
        c.due("TUBE 5 of five", x.search(1, 1, 1, 1, 0), ButtonMatch.UNKNOWN);
        c.due("TUBE -1", x.search(1, 1, 2, 1, 0), ButtonMatch.UNKNOWN);
        c.due("fault of a refusal", x.fault(), 0);
        c.due("TUBE 5 behind one that is FOUND", x.search(1, 1, 0, 2, 1), ButtonMatch.UNKNOWN);
        c.due("TUBE 0", x.search(1, 1, 0, 1, 1), 0);
    }

    private static long[] sieved(ButtonMatch x, int... row) {
        Coats.write(x, 1, 0, row);
        return new long[] {x.sieve(1, 0, 0, row.length, 0), x.sieve(1, 0, 0, row.length, 1)};
    }

    private static void sievings() {
        ButtonMatch x = Coats.with("b3540000000;t35400;s25200;o36400;t34400;o35200;t15400");
        c.row("no sign", sieved(x), 0, 63);
        c.row("COLOUR", sieved(x, 0), 6, 0b011111);
        c.row("SIZE", sieved(x, 1), 6, 0b100111);
        c.row("HOLES", sieved(x, 2), 6, 0b101101);
        c.row("SIZE, HOLES", sieved(x, 1, 2), 6 + 4, 0b100101);
        c.row("all", sieved(x, 2, 0, 1), 6 + 4 + 3, 0b000101);
        x.remember(3, 3);
        c.row("none is left", sieved(x, 0, 1, 2), 6, 0);
        x.remember(0, 0);
        x.near(20);
        c.row("NEAR is none of its", sieved(x, 0), 6, 0b011111);
    }

    private static void sieveRefusals() {
        ButtonMatch x = new ButtonMatch();
        Coats.write(x, 1, 1, 0, 0, 3, -1, 2, 1, 2);
        c.due("sheet 4", x.sieve(4, 9, 9, 99, 9), ButtonMatch.UNKNOWN);
        c.due("lane 3", x.sieve(1, 3, 0, 1, 0), ButtonMatch.OUTSIDE);
        c.due("n 4", x.sieve(1, 1, 0, 4, 0), ButtonMatch.OUTSIDE);
        c.due("n -1", x.sieve(1, 1, 0, -1, 0), ButtonMatch.OUTSIDE);
        c.due("what 2", x.sieve(1, 1, 0, 1, 2), ButtonMatch.OUTSIDE);
        c.due("what -1", x.sieve(1, 1, 0, 1, -1), ButtonMatch.OUTSIDE);
        c.due("another lane", x.sieve(1, 2, 9, 1, 0), -12);
        c.due("nothing", x.sieve(2, 2, 9, 1, 0), -11);
        c.due("beyond", x.sieve(1, 1, 6, 2, 0), -13);
        c.due("none behind the row", x.sieve(1, 1, 8, 0, 0), -13);
        c.due("fault", x.fault(), 3);
        c.due("no SHOP", x.sieve(1, 1, 2, 1, 0), ButtonMatch.STATE);
        c.due("fault of a refusal", x.fault(), 0);
        Coats.told(x, Coats.FIVE);
        c.due("twice", x.sieve(1, 1, 0, 2, 0), ButtonMatch.OUTSIDE);
        c.due("twice, one between", x.sieve(1, 1, 4, 3, 0), ButtonMatch.OUTSIDE);
        c.due("sign 3", x.sieve(1, 1, 2, 1, 0), ButtonMatch.OUTSIDE);
        c.due("sign -1", x.sieve(1, 1, 3, 1, 0), ButtonMatch.OUTSIDE);
        c.due("none at the end", x.sieve(1, 1, 7, 0, 1), 31);
    }
}
