/** Promises 10 and 11: search, sieve. */
public final class SearchTest {
    private static final Checks c = new Checks("SearchTest");

    public static void main(String[] args) {
        searches();
        sievings();
        c.finish();
    }

    private static long[] searched(ButtonMatch x, int... row) {
        Coats.write(x, 1, 0, row);
        int n = row.length;
        return new long[] {x.search(1, 0, 0, n, 0), x.search(1, 0, 0, n, 1), x.search(1, 0, 0, n, 2)};
    }

    private static void searches() {
        ButtonMatch x = Coats.with(Coats.FIVE);
        c.row("TUBE 0 at once", searched(x, 0, 4, 4), 1, 0, 1);
        c.row("4, then 1", searched(x, 4, 1, 0), 5 + 4, 1, 2);
        c.row("none is found", searched(x, 4, 2, 3), 5 + 3 + 2, -9, 3);
        c.row("the same one again", searched(x, 4, 4, 4), 5 + 1 + 1, -9, 3);
        x.near(1);
        c.row("just near enough", searched(x, 4, 3, 0), 5 + 2, 3, 2);
        x.remember(1, 0);
        x.near(0);
        c.row("REMEMBERED redder", searched(x, 0, 1, 3, 2), 1 + 2 + 3, 3, 3);
        x.stock(3, 0);
        c.row("a COUNT of 0 is found, too", searched(x, 3), 4, 3, 1);
    }

    private static long[] sieved(ButtonMatch x, int... row) {
        Coats.write(x, 1, 0, row);
        return new long[] {x.sieve(1, 0, 0, row.length, 0), x.sieve(1, 0, 0, row.length, 1)};
    }

    private static void sievings() {
        ButtonMatch x = Coats.with("b3540000000;t35400;s25200;o36400;t34400;o35200;t15400");
        c.row("no sign", sieved(x), 0, 63);
        c.row("COLOUR", sieved(x, 0), 6, 0b011111);
        c.row("SIZE", sieved(x, 1), 6, 0b100111);
        c.row("HOLES", sieved(x, 2), 6, 0b101101);
        c.row("SIZE, HOLES", sieved(x, 1, 2), 6 + 4, 0b100101);
        c.row("all", sieved(x, 2, 0, 1), 6 + 4 + 3, 0b000101);
        x.remember(3, 3);
        c.row("none is left", sieved(x, 0, 1, 2), 6, 0);
        x.remember(0, 0);
        x.near(20);
        c.row("NEAR is none of its", sieved(x, 0), 6, 0b011111);
    }
}
