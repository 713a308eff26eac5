/** What the tests share: answers that are due, texts that are typed, sheets that are filled. */
abstract class Checks {
    static final int BAD = -1, NOT = -2, FULL = -3, NONE = -4, NULL = -11, CAST = -12, INDEX = -13, SIZE = -14;
    static final int BYTES = 0, SHORTS = 1, INTS = 2;
    private static int asked = 0;
    private static int wrong = 0;
    private static String about = "";

    /** What the next answers are about: it is printed ahead of one that is not as due. */
    static void about(String what) {
        about = what;
    }

    static int askedSoFar() {
        return asked;
    }

    static void due(String call, int got, int want) {
        asked++;
        if (got != want) {
            fault(call + " answered " + got + ", due is " + want);
        }
    }

    static void fault(String what) {
        wrong++;
        System.out.println((about.isEmpty() ? "" : "[" + about + "] ") + what);
    }

    /** Prints how it went; the program ends with exit code 1 if an answer was not as due. */
    static void end(String allWell) {
        System.out.println(wrong == 0 ? allWell : wrong + " answers are not as due");
        if (wrong != 0) {
            System.exit(1);
        }
    }

    /** Types a text on an empty tape. */
    static void typed(BrideShoes x, String text) {
        typedBehind(x, 0, text);
    }

    static void typedBehind(BrideShoes x, int before, String text) {
        for (int i = 0; i < text.length(); i += 8) {
            String part = text.substring(i, Math.min(text.length(), i + 8));
            due("type of " + text, x.type(bytesOf(part), part.length()), before + i + part.length());
        }
    }

    static long bytesOf(String part) {
        long w = 0;
        for (int j = 0; j < part.length(); j++) {
            w = w << 8 | part.charAt(j);
        }
        return w;
    }

    /** A new object with these brides and this heap, as texts; none, if a text is empty. */
    static BrideShoes of(String brides, String heap) {
        BrideShoes x = new BrideShoes();
        tell(x, brides, heap);
        return x;
    }

    static void tell(BrideShoes x, String brides, String heap) {
        if (!brides.isEmpty()) {
            typed(x, brides);
            due("brides " + brides, x.brides(), brides.split(",").length);
        }
        if (!heap.isEmpty()) {
            typed(x, heap);
            due("heap " + heap, x.heap(), heap.split(",").length);
        }
    }

    static void filled(BrideShoes x, int sheet, int lane, int... items) {
        due("sheet", x.sheet(sheet, lane, items.length), items.length);
        for (int i = 0; i < items.length; i++) {
            due("item", x.item(sheet, lane, i, items[i]), 1);
        }
    }
}
