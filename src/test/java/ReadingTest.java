/** Promises 18 to 23: reading, back, memories, kinds, colours, nears. */
public final class ReadingTest {
    private static final int ALL_NEARS = (1 << 21) - 1;
    private static final Checks c = new Checks("ReadingTest");

    public static void main(String[] args) {
        numbersAndBack();
        withoutReadings();
        memoriesThatFit();
        kindsThatFit();
        coloursThatFit();
        nearsThatFit();
        nothingIsChanged();
        c.finish();
    }

    private static void numbersAndBack() {
        ButtonMatch x = Coats.with(Coats.FIVE);
        for (int number = 0; number < 8; number++) {
            c.due("reading", x.reading(number % 5, true), number);
            c.due("many", x.many(2), number + 1);
        }
        c.due("FULL", x.reading(0, true), ButtonMatch.FULL);
        c.due("FULL, but no TUBE", x.reading(5, true), ButtonMatch.UNKNOWN);
        c.due("TUBE -1", x.reading(-1, false), ButtonMatch.UNKNOWN);
        c.due("back 9", x.back(9), ButtonMatch.OUTSIDE);
        c.due("back -1", x.back(-1), ButtonMatch.OUTSIDE);
        c.due("back 0", x.back(0), 8);
        c.due("back 3", x.back(3), 5);
        c.due("numbered by how many there are", x.reading(0, true), 5);
        c.due("back 6", x.back(6), 0);
        c.due("back 1 of none", x.back(1), ButtonMatch.OUTSIDE);
        c.due("the first behind all were taken back", x.reading(4, false), 0);
        c.due("the next", x.reading(4, false), 1);
        c.due("a refused one has no number", x.reading(5, false), ButtonMatch.UNKNOWN);
        c.due("behind the refused one", x.reading(3, true), 2);
        Coats.told(x, Coats.FIVE);
        c.due("the first of the next SHOP", x.reading(2, true), 0);
    }

    private static long[] memories(ButtonMatch x) {
        return new long[] {x.memories(0), x.memories(1)};
    }

    private static void withoutReadings() {
        ButtonMatch x = Coats.with(Coats.FIVE);
        c.row("memories", memories(x), 16, 0);
        for (int t = 0; t < 5; t++) {
            c.due("kinds " + t, x.kinds(t), 7);
            c.due("colours " + t, x.colours(t), 255);
        }
        c.due("nears", x.nears(), ALL_NEARS);
        c.row("outside", new long[] {x.memories(-1), x.memories(2), x.kinds(5), x.kinds(-1), x.colours(5),
                x.colours(-1)}, -2, -2, -1, -1, -1, -1);
    }

    private static void memoriesThatFit() {
        ButtonMatch x = Coats.with("b3540000000;t46400;t35400");
        x.reading(0, true);
        c.row("redder by 1, larger by 1", memories(x), 1, 11);
        x.reading(1, false);
        c.row("and so was not TUBE 1", memories(x), 1, 11);
        x.reading(1, true);
        c.row("both cannot be", memories(x), 0, -9);
        x.back(3);
        x.reading(1, false);
        c.row("all others", memories(x), 15, 1);
        x.near(1);
        c.row("by NEAR", memories(x), 13, 2);
        x.near(0);
        ButtonMatch top = Coats.with("b6740000000;t79400");
        top.reading(0, true);
        c.row("7 and 9 at most", memories(top), 3 * 2, 12);
    }

    private static void kindsThatFit() {
        ButtonMatch x = Coats.with("b3540000000;t25400;t36400;o35400");
        x.reading(0, true);
        c.row("kinds", new long[] {x.kinds(0), x.kinds(1), x.kinds(2)}, 0b010, 0, 0);
        x.back(1);
        x.reading(1, true);
        c.row("kinds", new long[] {x.kinds(0), x.kinds(1), x.kinds(2)}, 0, 0b100, 0);
        x.back(1);
        x.reading(2, false);
        c.row("kinds", new long[] {x.kinds(0), x.kinds(1), x.kinds(2)}, 0b111, 0b111, 0b110);
        ButtonMatch edge = Coats.with("b7040000000;t70400");
        edge.reading(0, true);
        c.due("7 at most, 0 at least", edge.kinds(0), 0b111);
    }

    private static void coloursThatFit() {
        ButtonMatch x = Coats.with("b3540000000;t25400;s05400;o36400");
        x.reading(0, true);
        c.row("colours", new long[] {x.colours(0), x.colours(1), x.colours(2)}, 1 << 3, 0, 0);
        x.back(1);
        x.near(1);
        x.reading(1, true);
        c.row("SHADED", new long[] {x.colours(0), x.colours(1), x.colours(2)}, 0, 0b1110, 0);
        x.back(1);
        x.reading(2, false);
        c.row("OLD", new long[] {x.colours(0), x.colours(1), x.colours(2)}, 0, 0, 0b11100011);
        ButtonMatch top = Coats.with("b7540000000;s05400");
        top.reading(0, true);
        c.due("7 at most", top.colours(0), 0b11000000);
    }

    private static void nearsThatFit() {
        ButtonMatch x = Coats.with("b0040000000;t30400;t79200");
        x.reading(0, true);
        c.due("3 or more", x.nears(), ALL_NEARS & ~0b111);
        x.reading(1, false);
        c.due("3 to 17", x.nears(), (1 << 18) - 1 & ~0b111);
        x.remember(3, 0);
        c.due("REMEMBERED redder", x.nears(), (1 << 15) - 1);
        x.reading(0, false);
        c.due("none", x.nears(), 0);
    }

    private static void nothingIsChanged() {
        ButtonMatch x = Coats.with(Coats.FIVE);
        x.remember(1, 2);
        x.near(3);
        x.reading(1, true);
        x.memories(0);
        x.nears();
        for (int t = 0; t < 5; t++) {
            x.kinds(t);
            x.colours(t);
        }
        c.due("TUBE 0, COLOUR", x.ofTube(0, 1), 3);
        c.due("TUBE 4, COLOUR", x.ofTube(4, 1), 7);
        c.due("TUBE 1, kind", x.ofTube(1, 0), 1);
        c.due("TUBE 0, kind", x.ofTube(0, 0), 0);
        c.due("NEAR", x.near(3), 3);
        c.due("REMEMBERED", x.remember(1, 2), 12);
        c.due("WANTED", x.wanted(0), 3);
    }
}
