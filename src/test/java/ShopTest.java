/** Promises 2 to 9: shop, wanted, seen, ofTube, remember, near, stock, far. */
public final class ShopTest {
    private static final Checks c = new Checks("ShopTest");

    public static void main(String[] args) {
        textThatIsTaken();
        firstFaults();
        textMakesAllAnew();
        wantedAndSeen();
        partsOfTubes();
        remembered();
        nearness();
        stocks();
        c.finish();
    }

    private static void textThatIsTaken() {
        String six = "b0020000000;t00200;s00200;o00200;t79499;s79499;o79499";
        ButtonMatch x = new ButtonMatch();
        c.due("one TUBE", Coats.told(x, "b0020000000;t00200"), 1);
        c.due("six TUBES", Coats.told(x, six), 6);
        for (int lane = 0; lane < 3; lane++) {
            Coats.write(x, 0, lane, Coats.codes("99" + Coats.FIVE + ";"));
            c.due("from 2 on, lane " + lane, x.shop(0, lane, 2, 46), 5);
            c.due("fewer TUBES by n", x.shop(0, lane, 2, 25), 2);
            c.due("one code too many", x.shop(0, lane, 2, 47), -147);
        }
        Coats.write(x, 0, 2, Coats.codes(six + ";"));
        c.due("the ; of a seventh TUBE", x.shop(0, 2, 0, 54), -153);
        Coats.write(x, 0, 2, Coats.codes(six + "x"));
        c.due("another code behind six", x.shop(0, 2, 0, 54), -153);
        Coats.write(x, 0, 2, 256 + 'b');
        c.due("256 more is no b", x.shop(0, 2, 0, 1), -100);
        Coats.write(x, 0, 0, 256 + 'b');
        c.due("cut to a byte it is a b", x.shop(0, 0, 0, 1), -101);
    }

    /** Every place of a TEXT, by every code: taken, or a fault there. */
    private static void firstFaults() {
        String form = "bcdhddddddd;kcdhdd;kcdhdd;kcdhdd;kcdhdd;kcdhdd;kcdhdd";
        String text = "b7945018327;t35432;s25411;o36290;t45425;s75403;o00200";
        for (int place = 0; place < text.length(); place++) {
            // A new object for each place, as one is used for at most 512 calls.
            ButtonMatch x = new ButtonMatch();
            Coats.write(x, 0, 2, Coats.codes(text));
            String good = allowed(form.charAt(place));
            for (int code = 40; code < 125; code++) {
                x.put(0, place, code);
                int due = good.indexOf(code) >= 0 ? 6 : -100 - place;
                c.due("code " + code + " at " + place, x.shop(0, 2, 0, text.length()), due);
            }
            for (int code : new int[] {-1, 0, 127, -128, 1000, Integer.MIN_VALUE, text.charAt(place) + 65536}) {
                x.put(0, place, code);
                c.due("code " + code + " at " + place, x.shop(0, 2, 0, text.length()), -100 - place);
            }
        }
    }

    private static String allowed(char sort) {
        switch (sort) {
            case 'c': return "01234567";
            case 'd': return "0123456789";
            case 'h': return "24";
            case 'k': return "tso";
            default: return String.valueOf(sort);
        }
    }

    private static void textMakesAllAnew() {
        ButtonMatch x = Coats.with(Coats.FIVE);
        x.remember(2, 1);
        x.near(7);
        x.stock(0, 9);
        x.reading(0, true);
        x.tell(2);
        int trace = x.trace();
        Coats.write(x, 0, 0, 'b', '9');
        c.due("a TEXT that is not taken", x.shop(0, 0, 0, 2), -101);
        c.due("NEAR stays", x.many(3), 7);
        c.due("READINGS stay", x.many(2), 1);
        c.due("COUNT stays", x.ofTube(0, 4), 9);
        c.due("a TEXT that is taken", Coats.told(x, "b7940000009;o00299"), 1);
        c.due("NEAR", x.many(3), 0);
        c.due("READINGS", x.many(2), 0);
        c.due("COUNT", x.many(1), 9);
        c.due("WANTED", x.wanted(0), 7);
        c.due("the second TUBE is gone", x.far(1), ButtonMatch.UNKNOWN);
        c.due("REMEMBERED", x.remember(0, 0), 0);
        c.due("TRACE goes on", x.trace(), trace);
        c.due("SHEETS stay", x.cell(0, 1, 0), '9');
    }

    private static void wantedAndSeen() {
        ButtonMatch x = Coats.with(Coats.FIVE);
        c.row("wanted", new long[] {x.wanted(-1), x.wanted(0), x.wanted(1), x.wanted(2), x.wanted(3), x.wanted(4)},
                -2, 3, 5, 4, 7, -2);
        c.row("seen", new long[] {x.seen(-1), x.seen(0), x.seen(1), x.seen(2), x.seen(3), x.seen(4), x.seen(5),
                x.seen(6)}, -1, 5, 0, 1, 8, 3, 2, -1);
        ButtonMatch none = new ButtonMatch();
        c.row("wanted without a SHOP", new long[] {none.wanted(-1), none.wanted(3), none.wanted(4)}, -2, -3, -2);
        c.row("seen without a SHOP", new long[] {none.seen(-1), none.seen(5), none.seen(6)}, -1, -3, -1);
    }

    private static void partsOfTubes() {
        ButtonMatch x = Coats.with("b0020000000;t79299;s69401;s79232;o70243;o71464;s00255");
        parts(x, 0, 0, 7, 9, 2, 9, 9, 7, 9);
        parts(x, 1, 1, 6, 9, 4, 0, 1, 7, 9);
        parts(x, 2, 1, 7, 9, 2, 3, 2, 7, 9);
        parts(x, 3, 2, 7, 0, 2, 4, 3, 7, 0);
        parts(x, 4, 2, 7, 1, 4, 6, 4, 7, 0);
        parts(x, 5, 1, 0, 0, 2, 5, 5, 1, 0);
        c.due("ofTube 6", x.ofTube(6, 0), ButtonMatch.UNKNOWN);
        c.due("ofTube -1 8", x.ofTube(-1, 8), ButtonMatch.UNKNOWN);
        c.due("ofTube 0 8", x.ofTube(0, 8), ButtonMatch.OUTSIDE);
        c.due("ofTube 0 -1", x.ofTube(0, -1), ButtonMatch.OUTSIDE);
        c.due("ofTube without a SHOP", new ButtonMatch().ofTube(0, 9), ButtonMatch.UNKNOWN);
    }

    private static void parts(ButtonMatch x, int t, long... due) {
        long[] got = new long[8];
        for (int what = 0; what < 8; what++) {
            got[what] = x.ofTube(t, what);
        }
        c.row("ofTube " + t, got, due);
    }

    private static void remembered() {
        ButtonMatch x = Coats.with("b5720000000;t57200;t79200;t00400;s67211;o58200");
        c.row("FAR", fars(x), 0, 4, 14, 2, 0);
        c.due("remember", x.remember(1, 2), 0);
        c.row("FAR redder, larger", fars(x), 3, 1, 17, 3, 3);
        c.due("remember again", x.remember(3, 3), 12);
        c.row("FAR, 7 and 9 at most", fars(x), 4, 0, 18, 2, 4);
        for (int wrong : new int[] {-1, 4, Integer.MIN_VALUE, Integer.MAX_VALUE}) {
            c.due("redder " + wrong, x.remember(wrong, 0), ButtonMatch.OUTSIDE);
            c.due("larger " + wrong, x.remember(0, wrong), ButtonMatch.OUTSIDE);
            c.due("far " + wrong, x.far(wrong == 4 ? 5 : wrong), ButtonMatch.UNKNOWN);
        }
        c.due("refusals change nothing", x.remember(0, 0), 33);
        c.due("without a SHOP", new ButtonMatch().remember(3, 3), ButtonMatch.STATE);
        c.due("outside, without a SHOP", new ButtonMatch().remember(4, 3), ButtonMatch.OUTSIDE);
    }

    private static long[] fars(ButtonMatch x) {
        return new long[] {x.far(0), x.far(1), x.far(2), x.far(3), x.far(4)};
    }

    private static void nearness() {
        ButtonMatch x = Coats.with(Coats.FIVE);
        c.row("near", new long[] {x.near(20), x.near(21), x.near(-1), x.near(0), x.near(5), x.many(3)},
                0, -2, -2, 20, 0, 5);
        c.due("without a SHOP", new ButtonMatch().near(0), ButtonMatch.STATE);
        c.due("outside, without a SHOP", new ButtonMatch().near(21), ButtonMatch.OUTSIDE);
    }

    private static void stocks() {
        ButtonMatch x = Coats.with(Coats.FIVE);
        c.row("stock", new long[] {x.stock(4, 9), x.stock(4, 10), x.stock(4, -1), x.stock(4, 0), x.stock(4, 2),
                x.ofTube(4, 4), x.many(1), x.stock(5, 10), x.stock(-1, 0)}, 0, -2, -2, 9, 0, 2, 17, -1, -1);
        c.due("without a SHOP", new ButtonMatch().stock(0, 0), ButtonMatch.UNKNOWN);
    }
}
