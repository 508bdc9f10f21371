/** Objects to be tested, with a TEXT or a row already on a SHEET. */
final class Coats {
    /** WANTED 3 5 4; SEEN 5 0 1 8 3 2; SEWING 7; five TUBES of all kinds. */
    static final String FIVE = "b3545018327;t35432;s25411;o36290;t45425;s75403";

    private Coats() {
    }

    static void write(ButtonMatch x, int sheet, int lane, int... cells) {
        x.sheet(sheet, lane, cells.length);
        for (int i = 0; i < cells.length; i++) {
            x.put(sheet, i, cells[i]);
        }
    }

    static int[] codes(String text) {
        int[] codes = new int[text.length()];
        for (int i = 0; i < codes.length; i++) {
            codes[i] = text.charAt(i);
        }
        return codes;
    }

    /** What shop answers to a TEXT, told by a SHEET of bytes. */
    static int told(ButtonMatch x, String text) {
        write(x, 3, 0, codes(text));
        return x.shop(3, 0, 0, text.length());
    }

    static ButtonMatch with(String text) {
        ButtonMatch x = new ButtonMatch();
        if (told(x, text) < 1) {
            throw new IllegalArgumentException(text);
        }
        return x;
    }
}
