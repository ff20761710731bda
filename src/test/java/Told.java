/** Tells texts and rows to a museum by its own calls. */
final class Told {
    private Told() {
    }

    /** A new object with the museum of a text, by sheet 0 as ints. */
    static UseMuseum open(String text) {
        UseMuseum x = new UseMuseum();
        take(x, text);
        return x;
    }

    static int take(UseMuseum x, String text) {
        text(x, 0, 2, text);
        return x.museum(0, 2, 0, text.length());
    }

    static void text(UseMuseum x, int sheet, int lane, String text) {
        x.sheet(sheet, lane, text.length());
        for (int i = 0; i < text.length(); i++) {
            x.put(sheet, i, text.charAt(i));
        }
    }

    static void row(UseMuseum x, int sheet, int lane, int... cells) {
        x.sheet(sheet, lane, cells.length);
        for (int i = 0; i < cells.length; i++) {
            x.put(sheet, i, cells[i]);
        }
    }
}
