import java.io.IOException;

/** The sentences of the document's promises, each with a test of its own for the edges that it names. */
public final class PromiseEdgeTests extends Sentences {
    private static final String SEVEN = "40/41,42/43,44/45,46/47,48/49,50/51,52/53s4h11";
    private static final String SIXTEEN = "l40,l42,l44,l46,l48,l50,l52,l63,r41,r43,r45,r47,r49,r51,r53,r64";

    public static void main(String[] args) throws IOException {
        readDocument();
        bridesAndShoes();
        textsAndCounts();
        shoesForAll();
        triesAndImages();
        changedAndRanks();
        sheets();
        allTested(1, 28);
        end("all promises hold at their edges");
    }

    private static void bridesAndShoes() {
        sentence(1, "Nobody, no shoes.", PromiseEdgeTests::nobody);
        sentence(2, "A BRIDE: her number.", PromiseEdgeTests::brideNumber);
        sentence(2, "BAD;", PromiseEdgeTests::brideBad);
        sentence(2, "FULL: 7.", PromiseEdgeTests::brideFull);
        sentence(3, "Of a BRIDE: 0 LEFT, 1 RIGHT, 2 SWELL, 3 HOUR becomes v: what it was.", PromiseEdgeTests::makeWas);
        sentence(3, "BAD.", PromiseEdgeTests::makeBad);
        sentence(4, "A SHOE: its number.", PromiseEdgeTests::shoeNumber);
        sentence(4, "BAD;", PromiseEdgeTests::shoeBad);
        sentence(4, "FULL: 16.", PromiseEdgeTests::shoeFull);
        sentence(5, "Of a SHOE: 0 SIDE, 1 SIZE, 2 KIND, 3 whether it is LOST (1, 0).", PromiseEdgeTests::toldOfShoe);
        sentence(5, "BAD.", PromiseEdgeTests::toldBad);
        sentence(6, "A SHOE is LOST, or found: whether it was LOST (1, 0).", PromiseEdgeTests::loseWas);
        sentence(6, "BAD.", PromiseEdgeTests::loseBad);
        sentence(7, "A SETTING: what it was.", PromiseEdgeTests::setWas);
        sentence(7, "BAD.", PromiseEdgeTests::setBad);
        sentence(8, "A foot (SIDE) of a BRIDE at an HOUR.", PromiseEdgeTests::footOf);
        sentence(8, "BAD.", PromiseEdgeTests::footBad);
        sentence(9, "ASKED of a SHOE by a BRIDE at an HOUR.", PromiseEdgeTests::askedOf);
        sentence(9, "BAD;", PromiseEdgeTests::askedBad);
        sentence(9, "NONE: it does not go.", PromiseEdgeTests::askedNone);
        sentence(10, "BRIDES on whose foot a SHOE GOES at an HOUR, as a set.", PromiseEdgeTests::whoseSet);
        sentence(10, "BAD.", PromiseEdgeTests::whoseBad);
    }

    private static void nobody() {
        BrideShoes other = of(SEVEN, SIXTEEN);
        other.set(0, 5);
        other.image();
        other.type('x', 1);
        other.sheet(0, BYTES, 3);
        BrideShoes x = new BrideShoes();
        for (int what = 0; what <= 4; what++) {
            due("count " + what, x.count(what), 0);
        }
        due("bride 0", x.foot(0, 0, 0), BAD);
        due("shoe 0", x.told(0, 0), BAD);
        due("LOOSE", x.set(0, 2), 2);
        due("OUT", x.set(1, 3), 3);
        due("no image", x.restore(), NONE);
        due("no sheet", x.drop(0), NULL);
        due("an empty tape", x.brides(), -20);
        due("the tape's first byte", x.type('x', 1), 1);
        due("the first bride", x.bride(40, 40, 0, 0), 0);
        due("the first shoe", x.shoe(0, 40, 0), 0);
    }

    private static void brideNumber() {
        BrideShoes x = new BrideShoes();
        for (int b = 0; b < 7; b++) {
            due("bride " + b, x.bride(20 + b, 60 - b, b % 5, b), b);
            due("count", x.count(0), b + 1);
        }
        for (int b = 0; b < 7; b++) {
            due("left of " + b, x.make(b, 0, 40), 20 + b);
            due("right of " + b, x.make(b, 1, 40), 60 - b);
            due("swell of " + b, x.make(b, 2, 0), b % 5);
            due("hour of " + b, x.make(b, 3, 0), b);
        }
        typed(x, "40/40,40/40");
        x.brides();
        due("behind two by a text", x.bride(40, 40, 0, 0), 2);
    }

    private static void brideBad() {
        BrideShoes x = new BrideShoes();
        for (int v : outside(20, 60)) {
            due("left " + v, x.bride(v, 40, 0, 0), BAD);
            due("right " + v, x.bride(40, v, 0, 0), BAD);
        }
        for (int v : outside(0, 4)) {
            due("swell " + v, x.bride(40, 40, v, 0), BAD);
        }
        for (int v : outside(0, 11)) {
            due("hour " + v, x.bride(40, 40, 0, v), BAD);
        }
        due("none of them is there", x.count(0), 0);
        due("the least", x.bride(20, 20, 0, 0), 0);
        due("the most", x.bride(60, 60, 4, 11), 1);
    }

    private static void brideFull() {
        BrideShoes x = of("40/40,40/40,40/40,40/40,40/40,40/40", "");
        due("the seventh", x.bride(41, 42, 1, 2), 6);
        due("an eighth", x.bride(50, 50, 0, 0), FULL);
        due("an eighth", x.bride(50, 50, 0, 0), FULL);
        due("seven", x.count(0), 7);
        due("the seventh is still she", x.foot(6, 0, 0), 41);
        due("BAD ahead of FULL", x.bride(50, 50, 5, 0), BAD);
        typed(x, "40/40");
        x.brides();
        due("room again", x.bride(50, 50, 0, 0), 1);
    }

    private static void makeWas() {
        int[] least = {20, 20, 0, 0};
        int[] most = {60, 60, 4, 11};
        for (int what = 0; what < 4; what++) {
            BrideShoes x = of(SEVEN, "");
            due("what " + what + " becomes the least", x.make(6, what, least[what]), new int[] {52, 53, 4, 11}[what]);
            due("what " + what + " becomes the most", x.make(6, what, most[what]), least[what]);
            due("what " + what + " stays", x.make(6, what, most[what]), most[what]);
            for (int other = 0; other < 4; other++) {
                int is = new int[] {52, 53, 4, 11}[other];
                due("what " + other, x.make(6, other, least[other]), other == what ? most[what] : is);
                due("of the bride ahead", x.make(5, other, least[other]), new int[] {50, 51, 0, 0}[other]);
            }
        }
    }

    private static void makeBad() {
        BrideShoes x = of("40/41s2h8,42/43", "");
        int[] least = {20, 20, 0, 0};
        int[] most = {60, 60, 4, 11};
        for (int what = 0; what < 4; what++) {
            for (int v : outside(least[what], most[what])) {
                due("what " + what + " becomes " + v, x.make(0, what, v), BAD);
            }
            for (int b : outside(0, 1)) {
                due("bride " + b, x.make(b, what, least[what]), BAD);
            }
        }
        for (int what : outside(0, 3)) {
            due("what " + what, x.make(0, what, 4), BAD);
            due("what " + what, x.make(0, what, 40), BAD);
        }
        due("of nobody", new BrideShoes().make(0, 0, 40), BAD);
        int[] is = {40, 41, 2, 8};
        for (int what = 0; what < 4; what++) {
            due("what " + what + " is as it was", x.make(0, what, least[what]), is[what]);
        }
    }

    private static void shoeNumber() {
        BrideShoes x = new BrideShoes();
        for (int s = 0; s < 16; s++) {
            due("shoe " + s, x.shoe(s / 8, 20 + s, s % 4), s);
            due("count", x.count(1), s + 1);
        }
        for (int s = 0; s < 16; s++) {
            due("side of " + s, x.told(s, 0), s / 8);
            due("size of " + s, x.told(s, 1), 20 + s);
            due("kind of " + s, x.told(s, 2), s % 4);
            due("lost " + s, x.told(s, 3), 0);
        }
        typed(x, "l40,r40,l40");
        x.heap();
        due("behind three by a text", x.shoe(0, 40, 0), 3);
    }

    private static void shoeBad() {
        BrideShoes x = new BrideShoes();
        for (int v : outside(0, 1)) {
            due("side " + v, x.shoe(v, 40, 0), BAD);
        }
        for (int v : outside(20, 70)) {
            due("size " + v, x.shoe(0, v, 0), BAD);
        }
        for (int v : outside(0, 3)) {
            due("kind " + v, x.shoe(0, 40, v), BAD);
        }
        due("none of them is there", x.count(1), 0);
        due("the least", x.shoe(0, 20, 0), 0);
        due("the most", x.shoe(1, 70, 3), 1);
    }

    private static void shoeFull() {
        BrideShoes x = of("", "l40,l40,l40,l40,l40,l40,l40,l40,l40,l40,l40,l40,l40,l40,l40");
        due("the sixteenth", x.shoe(1, 41, 3), 15);
        due("a seventeenth", x.shoe(0, 50, 0), FULL);
        due("a seventeenth", x.shoe(0, 50, 0), FULL);
        due("sixteen", x.count(1), 16);
        due("the sixteenth is still it", x.told(15, 1), 41);
        due("BAD ahead of FULL", x.shoe(0, 50, 4), BAD);
        x.lose(0, true);
        due("a lost one takes room, too", x.shoe(0, 50, 0), FULL);
        typed(x, "l40");
        x.heap();
        due("room again", x.shoe(0, 50, 0), 1);
    }

    private static void toldOfShoe() {
        BrideShoes x = of("", "l20,r70p");
        int[][] want = {{0, 20, 0, 0}, {1, 70, 3, 0}};
        for (int s = 0; s < 2; s++) {
            for (int what = 0; what < 4; what++) {
                due("shoe " + s + ", what " + what, x.told(s, what), want[s][what]);
            }
        }
        x.lose(1, true);
        due("lost", x.told(1, 3), 1);
        due("the other is not", x.told(0, 3), 0);
        due("its size is as it was", x.told(1, 1), 70);
        x.lose(1, false);
        due("found", x.told(1, 3), 0);
    }

    private static void toldBad() {
        BrideShoes x = of("", SIXTEEN);
        for (int s : outside(0, 15)) {
            due("shoe " + s, x.told(s, 0), BAD);
        }
        for (int what : outside(0, 3)) {
            due("what " + what, x.told(0, what), BAD);
        }
        due("of none", new BrideShoes().told(0, 0), BAD);
        due("of few", of("", "l40,l41").told(2, 0), BAD);
    }

    private static void loseWas() {
        BrideShoes x = of("", "l40,r40");
        due("found, though not lost", x.lose(0, false), 0);
        due("lost", x.lose(0, true), 0);
        due("lost again", x.lose(0, true), 1);
        due("the other is not", x.lose(1, false), 0);
        due("found", x.lose(0, false), 1);
        due("found again", x.lose(0, false), 0);
        due("none lost", x.count(4), 0);
    }

    private static void loseBad() {
        BrideShoes x = of("", "l40,r40");
        for (int s : outside(0, 1)) {
            due("shoe " + s + " lost", x.lose(s, true), BAD);
            due("shoe " + s + " found", x.lose(s, false), BAD);
        }
        due("none lost", x.count(4), 0);
        due("of none", new BrideShoes().lose(0, true), BAD);
        due("the next one is not lost", x.shoe(0, 41, 0), 2);
        due("the next one is not lost", x.told(2, 3), 0);
    }

    private static void setWas() {
        for (int what = 0; what < 2; what++) {
            BrideShoes x = new BrideShoes();
            int was = what == 0 ? 2 : 3;
            for (int v = 0; v <= 6; v++) {
                due("SETTING " + what + " becomes " + v, x.set(what, v), was);
                was = v;
            }
            due("it is", x.set(what, 0), 6);
            due("the other is as at first", x.set(1 - what, 0), what == 0 ? 3 : 2);
        }
    }

    private static void setBad() {
        BrideShoes x = new BrideShoes();
        for (int what : outside(0, 1)) {
            due("SETTING " + what, x.set(what, 1), BAD);
        }
        for (int v : outside(0, 6)) {
            due("LOOSE " + v, x.set(0, v), BAD);
            due("OUT " + v, x.set(1, v), BAD);
        }
        due("LOOSE is as at first", x.set(0, 2), 2);
        due("OUT is as at first", x.set(1, 3), 3);
    }

    private static void footOf() {
        BrideShoes x = of("20/60s1h11,60/20s4", "");
        due("left", x.foot(0, 0, 0), 20);
        due("right", x.foot(0, 1, 0), 60);
        due("at 11", x.foot(0, 0, 11), 22);
        due("at 11", x.foot(0, 1, 11), 62);
        due("the largest", x.foot(1, 0, 11), 71);
        due("the other", x.foot(1, 1, 11), 31);
    }

    private static void footBad() {
        BrideShoes x = of("40/41,42/43", "");
        for (int b : outside(0, 1)) {
            due("bride " + b, x.foot(b, 0, 0), BAD);
        }
        for (int side : outside(0, 1)) {
            due("side " + side, x.foot(0, side, 0), BAD);
        }
        for (int hour : outside(0, 11)) {
            due("hour " + hour, x.foot(0, 0, hour), BAD);
        }
        due("of nobody", new BrideShoes().foot(0, 0, 0), BAD);
        due("bride 7 of seven", of(SEVEN, "").foot(7, 0, 0), BAD);
    }

    private static void askedOf() {
        BrideShoes x = of("40/50s4h11", "l40,l39,r50,r47");
        due("as it is", x.asked(0, 0, 0), 0);
        due("by one", x.asked(1, 0, 0), 1);
        due("right", x.asked(2, 0, 0), 0);
        due("right, by three", x.asked(3, 0, 0), 3);
        due("an hour later", x.asked(0, 0, 1), 1);
        due("three hours later", x.asked(2, 0, 3), 3);
    }

    private static void askedBad() {
        BrideShoes x = of("40/41,42/43", "l40,r41,l42");
        for (int s : outside(0, 2)) {
            due("shoe " + s, x.asked(s, 0, 0), BAD);
        }
        for (int b : outside(0, 1)) {
            due("bride " + b, x.asked(0, b, 0), BAD);
        }
        for (int hour : outside(0, 11)) {
            due("hour " + hour, x.asked(0, 0, hour), BAD);
        }
        due("of none", of("40/41", "").asked(0, 0, 0), BAD);
        due("by nobody", of("", "l40").asked(0, 0, 0), BAD);
    }

    private static void askedNone() {
        BrideShoes x = of("40/40s4", "l36,l37,l42,l43,l39g,l41g,l36p,l37p,r70,r20");
        int[] want = {NONE, 3, 0, NONE, NONE, NONE, NONE, 1, NONE, NONE};
        for (int s = 0; s < want.length; s++) {
            due("shoe " + s, x.asked(s, 0, 0), want[s]);
        }
        due("later", x.asked(3, 0, 1), 0);
        due("too late", x.asked(3, 0, 7), NONE);
    }

    private static void whoseSet() {
        BrideShoes x = of("40/40,38/40,37/40,43/40,44/40,40/40s4,30/40", "l40,r20,r40");
        due("38 .. 43", x.whose(0, 0), 1 + 2 + 8 + 32);
        due("nobody", x.whose(1, 0), 0);
        due("all", x.whose(2, 0), 127);
        due("later: not who swelled", x.whose(2, 4), 95);
        x.set(1, 0);
        due("not let out", x.whose(0, 0), 1 + 2 + 32);
        x.lose(0, true);
        due("lost", x.whose(0, 0), 1 + 2 + 32);
        due("of nobody", of("", "l40").whose(0, 0), 0);
    }

    private static void whoseBad() {
        BrideShoes x = of("40/41", "l40,r41,l42");
        for (int s : outside(0, 2)) {
            due("shoe " + s, x.whose(s, 0), BAD);
        }
        for (int hour : outside(0, 11)) {
            due("hour " + hour, x.whose(0, hour), BAD);
        }
        due("hour 11", x.whose(0, 11), 1);
        due("of none", of("40/41", "").whose(0, 0), BAD);
    }

    private static void textsAndCounts() {
        sentence(11, "The n lowest bytes (1 .. 8) of w, of these the highest first, come behind THE TAPE: how many it has.",
            PromiseEdgeTests::typeBehind);
        sentence(11, "BAD: n, a byte not 32 .. 126;", PromiseEdgeTests::typeBad);
        sentence(11, "FULL: 120.", PromiseEdgeTests::typeFull);
        sentence(12, "THE TAPE, which is empty then (whatever is answered), is BRIDES: how many.",
            PromiseEdgeTests::bridesHowMany);
        sentence(12, "A FAULT (those told stay).", PromiseEdgeTests::bridesFault);
        sentence(13, "THE TAPE, which is empty then (whatever is answered), is a HEAP: how many SHOES.",
            PromiseEdgeTests::heapHowMany);
        sentence(13, "A FAULT (those told stay).", PromiseEdgeTests::heapFault);
        sentence(14, "How many: 0 BRIDES, 1 SHOES, 2 left ones not LOST, 3 right ones not LOST, 4 LOST.",
            PromiseEdgeTests::countHowMany);
        sentence(14, "BAD.", PromiseEdgeTests::countBad);
    }

    private static void typeBehind() {
        for (int n = 1; n <= 8; n++) {
            BrideShoes x = new BrideShoes();
            String text = "l0000040".substring(0, n);
            due("first " + n, x.type(bytesOf(text), n), n);
            due("then the rest", x.type(bytesOf("l0000040"), 8), n + 8);
            due("in this order", x.heap(), n == 8 ? -28 : -21);
        }
        BrideShoes x = new BrideShoes();
        due("one by one", x.type('r', 1), 1);
        due("the highest first", x.type(0x3433L, 2), 3);
        due("the higher bytes of w are none of them", x.type(0x8000FF1F00FF0000L | bytesOf("p"), 1), 4);
        due("those of a w below 0, neither", x.type(-1L << 16 | bytesOf(",l"), 2), 6);
        due("eight", x.type(bytesOf("50v,r70g"), 8), 14);
        due("a heap", x.heap(), 3);
        due("43", x.told(0, 1), 43);
        due("PATCHED", x.told(0, 2), 3);
        due("50", x.told(1, 1), 50);
        due("GLASS", x.told(2, 2), 1);
    }

    private static void typeBad() {
        BrideShoes x = new BrideShoes();
        for (int n : outside(1, 8)) {
            due("n " + n, x.type(0x4141414141414141L, n), BAD);
        }
        for (int n = 1; n <= 8; n++) {
            for (int at = 0; at < n; at++) {
                for (int bad : new int[] {0, 31, 127, 128, 255}) {
                    long w = 0x4141414141414141L & ~(255L << (8 * at)) | (long) bad << (8 * at);
                    due("byte " + at + " of " + n + " is " + bad, x.type(w, n), BAD);
                }
            }
        }
        due("all bits", x.type(-1L, 8), BAD);
        due("none of these came", x.type(0x207EL, 2), 2);
        due("32 and 126 eight times", x.type(0x207E207E207E207EL, 8), 10);
    }

    private static void typeFull() {
        BrideShoes x = new BrideShoes();
        for (int i = 1; i <= 14; i++) {
            due("by eight", x.type(bytesOf("        "), 8), 8 * i);
        }
        due("l4, 114", x.type(bytesOf("l4"), 2), 114);
        due("seven are too many", x.type(bytesOf("0      "), 7), FULL);
        due("eight are too many", x.type(bytesOf("0       "), 8), FULL);
        due("six are not", x.type(bytesOf("1     "), 6), 120);
        due("a 121st", x.type('x', 1), FULL);
        due("BAD ahead of FULL", x.type(31, 1), BAD);
        due("n 9: BAD ahead of FULL", x.type(0, 9), BAD);
        due("what was full did not come", x.heap(), 1);
        due("41", x.told(0, 1), 41);
        due("room again", x.type('x', 1), 1);
    }

    private static void bridesHowMany() {
        BrideShoes x = new BrideShoes();
        String text = "40/41";
        for (int n = 1; n <= 7; n++) {
            typed(x, text);
            due(n + " of them", x.brides(), n);
            due("the tape is empty then", x.brides(), -20);
            due("they stay", x.count(0), n);
            text += ",40/41";
        }
        typed(x, text);
        due("eight", x.brides(), -61);
        due("the tape is empty then, too", x.type('x', 1), 1);
        due("a fault", x.brides(), -20);
        due("the tape is empty then, too", x.type('x', 1), 1);
    }

    private static void bridesFault() {
        for (String text : new String[] {"", "x", "30/31,", "30/31,32/33x", "30/31s5", "30/31h12", "30/61", "61/30",
            "30/31,30/31,30/31,30/31,30/31,30/31,30/31,30/31"}) {
            BrideShoes x = of("40/41s2h8,42/43", "l40");
            typed(x, text);
            due("'" + text + "' is a fault", x.brides() <= -20 ? 1 : 0, 1);
            due("two stay", x.count(0), 2);
            int[] is = {40, 41, 2, 8};
            int[] next = {42, 43, 0, 0};
            for (int what = 0; what < 4; what++) {
                due("what " + what, x.make(0, what, what < 2 ? 20 : 0), is[what]);
                due("of the second", x.make(1, what, what < 2 ? 20 : 0), next[what]);
            }
            due("shoes stay", x.count(1), 1);
        }
    }

    private static void heapHowMany() {
        BrideShoes x = new BrideShoes();
        String text = "l40";
        for (int n = 1; n <= 16; n++) {
            typed(x, text);
            due(n + " of them", x.heap(), n);
            due("the tape is empty then", x.heap(), -20);
            due("they stay", x.count(1), n);
            text += ",l40";
        }
        typed(x, text);
        due("seventeen", x.heap(), -83);
        due("the tape is empty then, too", x.type('x', 1), 1);
        due("a fault", x.heap(), -20);
        due("the tape is empty then, too", x.type('x', 1), 1);
    }

    private static void heapFault() {
        for (String text : new String[] {"", "x", "r30,", "r30v,r31x", "r19", "r71", "r30vv", "rr30", "r30 31",
            "r30,r30,r30,r30,r30,r30,r30,r30,r30,r30,r30,r30,r30,r30,r30,r30,r30"}) {
            BrideShoes x = of("40/41", "l40p,r41g");
            x.lose(1, true);
            typed(x, text);
            due("'" + text + "' is a fault", x.heap() <= -20 ? 1 : 0, 1);
            due("two stay", x.count(1), 2);
            int[] is = {0, 40, 3, 0};
            int[] next = {1, 41, 1, 1};
            for (int what = 0; what < 4; what++) {
                due("what " + what, x.told(0, what), is[what]);
                due("of the second", x.told(1, what), next[what]);
            }
            due("brides stay", x.count(0), 1);
        }
    }

    private static void countsDue(BrideShoes x, int... want) {
        for (int what = 0; what < 5; what++) {
            due("count " + what, x.count(what), want[what]);
        }
    }

    private static void countHowMany() {
        countsDue(new BrideShoes(), 0, 0, 0, 0, 0);
        BrideShoes x = of(SEVEN, "l40,l40,l40,l40,l40,l40,l40,r40,r40,r40,r40,r40,r40,r40,r40,r40");
        countsDue(x, 7, 16, 7, 9, 0);
        x.lose(0, true);
        x.lose(1, true);
        x.lose(15, true);
        countsDue(x, 7, 16, 5, 8, 3);
        for (int s = 0; s < 16; s++) {
            x.lose(s, true);
        }
        countsDue(x, 7, 16, 0, 0, 16);
        x.lose(7, false);
        countsDue(x, 7, 16, 0, 1, 15);
    }

    private static void countBad() {
        BrideShoes x = of(SEVEN, SIXTEEN);
        for (int what : outside(0, 4)) {
            due("what " + what, x.count(what), BAD);
        }
    }

    private static void shoesForAll() {
        sentence(15, "FOR ALL by a SIDE: what is ASKED together (-1), the SHOE of a BRIDE.", PromiseEdgeTests::shodOf);
        sentence(15, "BAD;", PromiseEdgeTests::shodBad);
        sentence(15, "NONE: not for all.", PromiseEdgeTests::shodNone);
        sentence(16, "MOST by a SIDE.", PromiseEdgeTests::mostOf);
        sentence(16, "BAD.", PromiseEdgeTests::mostBad);
        sentence(17, "CHAIN, when a SHOE is LOST.", PromiseEdgeTests::chainOf);
        sentence(17, "BAD;", PromiseEdgeTests::chainBad);
        sentence(17, "NOT: it is LOST, it is on no foot, there is no way FOR ALL;", PromiseEdgeTests::chainNot);
        sentence(17, "NONE: then not all have one.", PromiseEdgeTests::chainNone);
        sentence(18, "LIMPS.", PromiseEdgeTests::limpsOf);
        sentence(18, "BAD less 100000.", PromiseEdgeTests::limpsBad);
    }

    private static void shodOf() {
        BrideShoes x = of("40/50,42/52,44/54", "l44,r52,l42,r54,l39,r50");
        due("left together", x.shod(0, -1), 1);
        due("left of 0", x.shod(0, 0), 4);
        due("left of 1", x.shod(0, 1), 2);
        due("left of 2", x.shod(0, 2), 0);
        due("right together", x.shod(1, -1), 0);
        due("right of 0", x.shod(1, 0), 5);
        due("right of 1", x.shod(1, 1), 1);
        due("right of 2", x.shod(1, 2), 3);
        BrideShoes y = of(SEVEN, "l40,l42,l44,l46,l48,l50,l63,l40,l42,l44,l46,l48,l50,l63,l40,l42");
        due("seven of sixteen", y.shod(0, -1), 0);
        for (int b = 0; b < 7; b++) {
            due("bride " + b, y.shod(0, b), b);
        }
        due("nobody", new BrideShoes().shod(1, -1), 0);
    }

    private static void shodBad() {
        BrideShoes x = of("40/40,42/42", "l40,l42,r40,r42");
        for (int side : outside(0, 1)) {
            due("side " + side, x.shod(side, 0), BAD);
            due("side " + side, x.shod(side, -1), BAD);
        }
        for (int b : outside(-1, 1)) {
            due("bride " + b, x.shod(0, b), BAD);
            due("bride " + b, x.shod(1, b), BAD);
        }
        due("of nobody", new BrideShoes().shod(0, 0), BAD);
        due("bride 7 of seven", of(SEVEN, SIXTEEN).shod(0, 7), BAD);
        x.lose(0, true);
        x.lose(1, true);
        due("BAD ahead of NONE", x.shod(0, 2), BAD);
    }

    private static void shodNone() {
        BrideShoes x = of("40/40,42/42", "l40,l41,r40,r43");
        due("for all", x.shod(0, -1), 1);
        due("for all", x.shod(1, 1), 3);
        x.lose(1, true);
        for (int b = -1; b < 2; b++) {
            due("one shoe for two: " + b, x.shod(0, b), NONE);
            due("the other side is as it was: " + b, x.shod(1, b), b < 0 ? 0 : b + 2);
        }
        due("no shoes", of("40/40", "").shod(0, -1), NONE);
        due("none that goes", of("40/40", "l50,l30").shod(0, 0), NONE);
        due("of the other side alone", of("40/40", "r40").shod(0, 0), NONE);
    }

    private static void mostOf() {
        BrideShoes x = of(SEVEN, SIXTEEN);
        due("all left", x.most(0), 7);
        due("all right", x.most(1), 7);
        for (int s = 0; s < 8; s++) {
            x.lose(s, true);
            due("without the first " + (s + 1), x.most(0), s < 1 ? 7 : 7 - s);
        }
        due("right as ever", x.most(1), 7);
        due("nobody", new BrideShoes().most(0), 0);
        // A way that begins with the wrong ones has one alone.
        due("both", of("40/40,42/42", "l42,l43").most(0), 2);
        due("both, the other way about", of("42/42,40/40", "l42,l43").most(0), 2);
    }

    private static void mostBad() {
        BrideShoes x = of("40/40", "l40,r40");
        for (int side : outside(0, 1)) {
            due("side " + side, x.most(side), BAD);
        }
        due("the least side", x.most(0), 1);
        due("the most", x.most(1), 1);
    }

    private static void chainOf() {
        BrideShoes x = of("40/50,42/52,44/54", "l40,l42,l44,l46,r50,r52,r54,r56");
        for (int s = 0; s < 3; s++) {
            due("left " + s, x.chain(s), 3 - s);
            due("right " + s, x.chain(s + 4), 3 - s);
        }
        due("asked again, the same", x.chain(0), 3);
        due("it is not lost", x.told(0, 3), 0);
        due("FOR ALL is as it was", x.shod(0, 0), 0);
        // A new one for her alone is shorter than one that goes round.
        x.shoe(0, 41, 0);
        due("0 takes it", x.chain(0), 1);
        due("1 takes it, let out", x.chain(1), 1);
        x.set(1, 0);
        due("1 can't take it, so 2 changes, too", x.chain(1), 2);
    }

    private static void chainBad() {
        BrideShoes x = of("40/40", "l40,l41,r30");
        for (int s : outside(0, 2)) {
            due("shoe " + s, x.chain(s), BAD);
        }
        due("of none", of("40/40", "").chain(0), BAD);
        due("BAD ahead of NOT", of("40/40", "r40").chain(1), BAD);
    }

    private static void chainNot() {
        BrideShoes x = of("40/50", "l40,l41,l42,r30");
        due("on no foot", x.chain(1), NOT);
        due("no way by its side", x.chain(3), NOT);
        x.lose(1, true);
        due("lost, on no foot", x.chain(1), NOT);
        x.lose(0, true);
        due("lost", x.chain(0), NOT);
        due("now it is on a foot", x.chain(2), NONE);
        x.lose(2, true);
        due("lost, no way", x.chain(2), NOT);
        BrideShoes y = of("40/40,60/60", "l40,l41");
        due("it fits her, but there is no way for all", y.chain(0), NOT);
        due("nobody: on no foot", of("", "l40").chain(0), NOT);
    }

    private static void chainNone() {
        BrideShoes x = of("40/40,42/42", "l40,l42,l50");
        due("0's", x.chain(0), NONE);
        due("1's", x.chain(1), NONE);
        due("of no use", x.chain(2), NOT);
        x.shoe(0, 43, 0);
        due("1 takes 43, 0 takes 42", x.chain(0), 2);
        due("1 takes 43", x.chain(1), 1);
        x.lose(3, true);
        due("lost besides", x.chain(1), NONE);
    }

    private static void limpsOf() {
        BrideShoes x = of("40/50s4", "l42,l43,l40,l39,r49v,r48v,r70,r20");
        int[] want = {0, 1, 0, -1, 0, -1, 18, -30};
        for (int s = 0; s < want.length; s++) {
            due("shoe " + s, x.limps(0, s, 0), want[s]);
        }
        due("at 11", x.limps(0, 0, 11), -9);
        due("at 11", x.limps(0, 6, 11), 7);
        x.lose(0, true);
        due("lost", x.limps(0, 0, 11), -9);
    }

    private static void limpsBad() {
        BrideShoes x = of("40/50,41/51", "l42,l43,l40");
        for (int b : outside(0, 1)) {
            due("bride " + b, x.limps(b, 0, 0), -100001);
        }
        for (int s : outside(0, 2)) {
            due("shoe " + s, x.limps(0, s, 0), -100001);
        }
        for (int hour : outside(0, 11)) {
            due("hour " + hour, x.limps(0, 0, hour), -100001);
        }
        due("of none", new BrideShoes().limps(0, 0, 0), -100001);
    }

    private static void triesAndImages() {
        sentence(19, "TRIES for a foot of a SIDE from a to b: how many (0), FIRST (1).", PromiseEdgeTests::triesOf);
        sentence(19, "BAD (also a above b);", PromiseEdgeTests::triesBad);
        sentence(19, "NONE: none tell all apart; none is wanted (1).", PromiseEdgeTests::triesNone);
        sentence(20, "All but SHEETS, THE TAPE is kept as an IMAGE: 1.", PromiseEdgeTests::imageKeeps);
        sentence(21, "All is as it was then: 1.", PromiseEdgeTests::restoreAll);
        sentence(21, "NONE: there is none.", PromiseEdgeTests::restoreNone);
    }

    private static void triesOf() {
        BrideShoes x = of("", "l40,l41,l42,r50,r52,r60,r20");
        due("left", x.tries(0, 39, 43, 0), 2);
        due("left, first", x.tries(0, 39, 43, 1), 40);
        due("left, one", x.tries(0, 41, 43, 0), 1);
        due("left, one, first", x.tries(0, 41, 43, 1), 42);
        due("right", x.tries(1, 49, 53, 0), 2);
        due("right, first", x.tries(1, 49, 53, 1), 50);
        due("right, to the most", x.tries(1, 59, 60, 0), 1);
        due("right, to the most, first", x.tries(1, 59, 60, 1), 60);
        due("right, from the least", x.tries(1, 20, 21, 0), 1);
        due("right, from the least, first", x.tries(1, 20, 21, 1), 20);
    }

    private static void triesBad() {
        BrideShoes x = of("", "l40,r40");
        for (int side : outside(0, 1)) {
            due("side " + side, x.tries(side, 40, 41, 0), BAD);
        }
        for (int v : outside(20, 60)) {
            due("a " + v, x.tries(0, v, 60, 0), BAD);
            due("b " + v, x.tries(0, 20, v, 0), BAD);
            due("a and b " + v, x.tries(0, v, v, 0), BAD);
        }
        for (int what : outside(0, 1)) {
            due("what " + what, x.tries(0, 40, 41, what), BAD);
        }
        due("a above b by one", x.tries(0, 41, 40, 0), BAD);
        due("a above b", x.tries(0, 60, 20, 1), BAD);
        due("a as b", x.tries(0, 41, 41, 0), 0);
        due("BAD ahead of NONE", x.tries(0, 30, 61, 0), BAD);
    }

    private static void triesNone() {
        BrideShoes x = of("", "l41,r61,r70");
        due("none tell apart", x.tries(0, 40, 43, 0), NONE);
        due("none tell apart, first", x.tries(0, 40, 43, 1), NONE);
        due("too large to tell", x.tries(1, 59, 60, 0), NONE);
        due("none is wanted", x.tries(0, 41, 41, 0), 0);
        due("none is wanted, first", x.tries(0, 41, 41, 1), NONE);
        due("none is wanted, no shoes", new BrideShoes().tries(0, 20, 20, 0), 0);
        due("none is wanted, no shoes, first", new BrideShoes().tries(0, 20, 20, 1), NONE);
        due("one is wanted", x.tries(0, 41, 42, 1), 41);
    }

    private static void imageKeeps() {
        BrideShoes x = of(SEVEN, SIXTEEN);
        x.lose(15, true);
        x.set(0, 6);
        x.set(1, 0);
        filled(x, 0, BYTES, 1, 2, 3);
        typed(x, "l4");
        due("image", x.image(), 1);
        due("the tape goes on", x.type('1', 1), 3);
        due("the sheet is there", x.drop(0), 3);
        due("brides are there", x.count(0), 7);
        due("a heap", x.heap(), 1);
        x.set(0, 1);
        due("restore", x.restore(), 1);
        countsDue(x, 7, 16, 8, 7, 1);
        due("the tape is no part of it", x.type('x', 1), 1);
        due("sheets are no part of it", x.drop(0), NULL);
        due("LOOSE", x.set(0, 2), 6);
        due("OUT", x.set(1, 3), 0);
        due("another image", x.image(), 1);
        x.set(0, 5);
        due("restore", x.restore(), 1);
        due("it is the later one", x.set(0, 5), 2);
        due("lost in it", x.told(15, 3), 1);
    }

    private static void restoreAll() {
        BrideShoes x = of("40/41s2h8", "l40p,r41g");
        x.lose(1, true);
        x.image();
        tell(x, SEVEN, SIXTEEN);
        for (int s = 0; s < 16; s++) {
            x.lose(s, true);
        }
        x.set(0, 0);
        x.set(1, 0);
        filled(x, 0, BYTES, 1, 2, 3);
        typed(x, "l4");
        due("restore", x.restore(), 1);
        countsDue(x, 1, 2, 1, 0, 1);
        int[] bride = {40, 41, 2, 8};
        int[] left = {0, 40, 3, 0};
        int[] right = {1, 41, 1, 1};
        for (int what = 0; what < 4; what++) {
            due("her " + what, x.make(0, what, what < 2 ? 20 : 0), bride[what]);
            due("shoe 0's " + what, x.told(0, what), left[what]);
            due("shoe 1's " + what, x.told(1, what), right[what]);
        }
        due("LOOSE", x.set(0, 1), 2);
        due("OUT", x.set(1, 1), 3);
        due("bride 1 is none", x.foot(1, 0, 0), BAD);
        due("shoe 2 is none", x.told(2, 0), BAD);
        due("the tape is as it is", x.type('5', 1), 3);
        due("the sheet is as it is", x.drop(0), 3);
        due("restore again", x.restore(), 1);
        due("what was made since is gone", x.foot(0, 0, 0), 40);
        due("the next shoe is not lost", x.shoe(0, 40, 0), 2);
        due("the next shoe is not lost", x.told(2, 3), 0);
        restoreNobody();
    }

    private static void restoreNobody() {
        BrideShoes x = new BrideShoes();
        due("an image of nobody", x.image(), 1);
        tell(x, SEVEN, SIXTEEN);
        due("restore", x.restore(), 1);
        countsDue(x, 0, 0, 0, 0, 0);
        due("bride 0 is none", x.foot(0, 0, 0), BAD);
        due("together", x.shod(0, -1), 0);
    }

    private static void restoreNone() {
        BrideShoes x = of("40/41", "l40");
        x.set(0, 5);
        due("none", x.restore(), NONE);
        due("she stays", x.foot(0, 0, 0), 40);
        due("the shoe stays", x.told(0, 1), 40);
        due("LOOSE stays", x.set(0, 5), 5);
        due("the image of another is none", new BrideShoes().restore(), NONE);
        x.image();
        due("one", x.restore(), 1);
        due("it is not used up", x.restore(), 1);
    }

    private static void changedAndRanks() {
        sentence(22, "CHANGED by a SIDE: how n BRIDES (1 .. 6) LIMPED, items of a SHEET, taken as a row of a LANE, from one on:",
            PromiseEdgeTests::changedFrom);
        sentence(22, "how many rows (-1), whose SHOE BRIDE k had by the first.", PromiseEdgeTests::changedTells);
        sentence(22, "BAD: also more than there are, k not below n;", PromiseEdgeTests::changedBad);
        sentence(22, "NOT: there is no way FOR ALL;", PromiseEdgeTests::changedNot);
        sentence(22, "NULL;", PromiseEdgeTests::changedNull);
        sentence(22, "CAST;", PromiseEdgeTests::changedCast);
        sentence(22, "INDEX;", PromiseEdgeTests::changedIndex);
        sentence(22, "NONE: there are none.", PromiseEdgeTests::changedNone);
        sentence(23, "BRIDES' BEST of n (2 .. 7): the GROOM of a BRIDE;", PromiseEdgeTests::firmOf);
        sentence(23, "RANKS are 2 n n items of a SHEET likewise: rows of BRIDES 0 .., then of GROOMS.",
            PromiseEdgeTests::firmRanks);
        sentence(23, "BAD: also one that is none;", PromiseEdgeTests::firmBad);
        sentence(23, "NULL;", PromiseEdgeTests::firmNull);
        sentence(23, "CAST;", PromiseEdgeTests::firmCast);
        sentence(23, "INDEX;", PromiseEdgeTests::firmIndex);
        sentence(23, "NOT: a row is none of these, each once.", PromiseEdgeTests::firmNot);
        sentence(24, "Told pairs (GROOMS of BRIDES 0 .., n items of another SHEET, or the same, of the like LANE from its first"
            + " on) by such RANKS:", PromiseEdgeTests::judgedPairs);
        sentence(24, "the first BRIDE who would leave, as 10 times her, and the GROOM with whom, of several that of the least"
            + " number.", PromiseEdgeTests::judgedFirst);
        sentence(24, "BAD;", PromiseEdgeTests::judgedBad);
        sentence(24, "NULL, CAST, INDEX of RANKS;", PromiseEdgeTests::judgedRanksRefused);
        sentence(24, "then NULL, CAST, INDEX of pairs;", PromiseEdgeTests::judgedPairsRefused);
        sentence(24, "NOT: RANKS, pairs are not as told;", PromiseEdgeTests::judgedNot);
        sentence(24, "NONE: they are FIRM.", PromiseEdgeTests::judgedNone);
    }

    private static void changedFrom() {
        for (int lane = 0; lane < 3; lane++) {
            BrideShoes x = of("40/60,44/56", "l40,l44,r60,r56");
            filled(x, lane, lane, 9, 2, -4, 0, 0, -4, 2);
            due("left, mixed", x.changed(0, lane, lane, 1, 2, 0), 1);
            due("left, not mixed", x.changed(0, lane, lane, 3, 2, 0), 0);
            due("left, to the last item", x.changed(0, lane, lane, 5, 2, -1), NONE);
            due("right, to the last item", x.changed(1, lane, lane, 5, 2, 0), 1);
            due("one of two", x.changed(0, lane, lane, 4, 1, 0), 0);
        }
        BrideShoes y = of("40/40,40/40,40/40,40/40,40/40,40/40,40/40", "l40,l40,l40,l40,l40,l40,l40");
        y.sheet(3, INTS, 100);
        due("six from 94 on", y.changed(0, 3, INTS, 94, 6, -1), 720);
        due("five of seven", y.changed(0, 3, INTS, 0, 5, -1), 120);
        due("one of seven", y.changed(0, 3, INTS, 99, 1, -1), 1);
        BrideShoes z = of("20/40,60/40s4h11", "l20,l70");
        z.set(0, 0);
        filled(z, 0, BYTES, 50, -51);
        due("as far as one can limp", z.changed(0, 0, BYTES, 0, 2, 0), 1);
    }

    private static void changedTells() {
        BrideShoes x = of("40/40,44/44,48/48,52/52", "l52,l48,l44,l40");
        filled(x, 0, SHORTS, 2, 2, 2, -12);
        due("one row", x.changed(0, 0, SHORTS, 0, 4, -1), 1);
        int[] had = {1, 2, 3, 0};
        for (int k = 0; k < 4; k++) {
            due("bride " + k + " had", x.changed(0, 0, SHORTS, 0, 4, k), had[k]);
        }
        filled(x, 0, SHORTS, 0, 0, 0, 0);
        for (int k = 0; k < 4; k++) {
            due("each her own: " + k, x.changed(0, 0, SHORTS, 0, 4, k), k);
        }
        BrideShoes y = of("40/40,40/40,44/44,44/44", "l40,l40,l44,l44");
        filled(y, 0, BYTES, 0, 2, -4, 0);
        due("four rows", y.changed(0, 0, BYTES, 0, 4, -1), 4);
        int[] first = {0, 2, 1, 3};
        for (int k = 0; k < 4; k++) {
            due("the first: " + k, y.changed(0, 0, BYTES, 0, 4, k), first[k]);
        }
    }

    private static void changedBad() {
        BrideShoes x = of("40/40,40/40,40/40", "l40,l40,l40,r40,r40,r40");
        x.sheet(0, BYTES, 9);
        for (int v : outside(0, 1)) {
            due("side " + v, x.changed(v, 0, BYTES, 0, 3, 0), BAD);
        }
        for (int v : outside(0, 3)) {
            due("sheet " + v, x.changed(0, v, BYTES, 0, 3, 0), BAD);
        }
        for (int v : outside(0, 2)) {
            due("lane " + v, x.changed(0, 0, v, 0, 3, 0), BAD);
        }
        for (int v : outside(1, 3)) {
            due("n " + v + " of 3", x.changed(0, 0, BYTES, 0, v, -1), BAD);
        }
        for (int n = 1; n <= 3; n++) {
            for (int k : outside(-1, n - 1)) {
                due("k " + k + " of " + n, x.changed(0, 0, BYTES, 0, n, k), BAD);
            }
            due("k " + (n - 1) + " of " + n, x.changed(0, 0, BYTES, 0, n, n - 1), n - 1);
        }
        BrideShoes y = of("40/40,40/40,40/40,40/40,40/40,40/40,40/40", "l40,l40,l40,l40,l40,l40,l40");
        y.sheet(0, BYTES, 9);
        due("six", y.changed(0, 0, BYTES, 0, 6, 5), 5);
        due("seven", y.changed(0, 0, BYTES, 0, 7, 5), BAD);
        due("of nobody", new BrideShoes().changed(0, 0, BYTES, 0, 1, 0), BAD);
        changedBadFirst();
    }

    /** No way for all and nothing on the sheet: each number that is not as told is BAD all the same. */
    private static void changedBadFirst() {
        BrideShoes x = of("40/40,40/40", "");
        due("side", x.changed(2, 0, BYTES, 0, 2, 0), BAD);
        due("sheet", x.changed(0, 4, BYTES, 0, 2, 0), BAD);
        due("lane", x.changed(0, 0, 3, 0, 2, 0), BAD);
        due("n", x.changed(0, 0, BYTES, 0, 0, -1), BAD);
        due("more than there are", x.changed(0, 0, BYTES, 0, 3, 0), BAD);
        due("k", x.changed(0, 0, BYTES, 0, 2, 2), BAD);
        due("none of these", x.changed(0, 0, BYTES, 0, 2, 1), NOT);
    }

    private static void changedNot() {
        BrideShoes x = of("40/40,60/60", "l40,r40,r60");
        x.sheet(0, BYTES, 2);
        due("the second has none", x.changed(0, 0, BYTES, 0, 2, -1), NOT);
        due("though the first has one", x.changed(0, 0, BYTES, 0, 1, -1), NOT);
        due("by the other side", x.changed(1, 0, BYTES, 0, 2, -1), 1);
        x.lose(1, true);
        due("lost", x.changed(1, 0, BYTES, 0, 2, -1), NOT);
        due("ahead of NULL", x.changed(0, 1, BYTES, 0, 2, 0), NOT);
        due("ahead of CAST", x.changed(0, 0, INTS, 0, 2, 0), NOT);
        due("ahead of INDEX", x.changed(0, 0, BYTES, -1, 2, 0), NOT);
    }

    private static void changedNull() {
        BrideShoes x = of("40/40", "l40");
        x.sheet(1, BYTES, 1);
        for (int s = 0; s < 4; s++) {
            due("sheet " + s, x.changed(0, s, BYTES, 0, 1, 0), s == 1 ? 0 : NULL);
            due("sheet " + s + ", though beyond", x.changed(0, s, BYTES, 1, 1, 0), s == 1 ? INDEX : NULL);
        }
        x.drop(1);
        due("dropped", x.changed(0, 1, BYTES, 0, 1, 0), NULL);
    }

    private static void changedCast() {
        BrideShoes x = of("40/40", "l40");
        for (int is = 0; is < 3; is++) {
            x.sheet(0, is, 1);
            for (int as = 0; as < 3; as++) {
                due("lane " + is + " as " + as, x.changed(0, 0, as, 0, 1, 0), is == as ? 0 : CAST);
                due("beyond, lane " + is + " as " + as, x.changed(0, 0, as, 9, 1, 0), is == as ? INDEX : CAST);
            }
        }
    }

    private static void changedIndex() {
        BrideShoes x = of("40/40,40/40", "l40,l40");
        x.sheet(0, BYTES, 3);
        due("from 1", x.changed(0, 0, BYTES, 1, 2, -1), 2);
        due("from 2", x.changed(0, 0, BYTES, 2, 2, -1), INDEX);
        due("from 2, one", x.changed(0, 0, BYTES, 2, 1, -1), 1);
        due("from 3, one", x.changed(0, 0, BYTES, 3, 1, -1), INDEX);
        for (int from : outside(0, 1)) {
            due("from " + from, x.changed(0, 0, BYTES, from, 2, -1), INDEX);
        }
        due("from the most, less one", x.changed(0, 0, BYTES, Integer.MAX_VALUE - 1, 2, -1), INDEX);
        x.sheet(0, BYTES, 0);
        due("an empty row", x.changed(0, 0, BYTES, 0, 1, -1), INDEX);
    }

    private static void changedNone() {
        BrideShoes x = of("40/40,44/44", "l40,l44");
        filled(x, 0, BYTES, 2, 0);
        for (int k = -1; k < 2; k++) {
            due("both had the same: " + k, x.changed(0, 0, BYTES, 0, 2, k), NONE);
        }
        filled(x, 0, BYTES, 1, -4);
        due("none so limps", x.changed(0, 0, BYTES, 0, 2, -1), NONE);
        filled(x, 0, INTS, Integer.MIN_VALUE, Integer.MAX_VALUE);
        due("nor so", x.changed(0, 0, INTS, 0, 2, -1), NONE);
        filled(x, 0, BYTES, 2, -4);
        due("one row", x.changed(0, 0, BYTES, 0, 2, -1), 1);
    }

    /** Ranks by which all brides, and all grooms, like the lower numbers more. */
    private static int[] ranks(int n) {
        int[] items = new int[2 * n * n];
        for (int i = 0; i < items.length; i++) {
            items[i] = i % n;
        }
        return items;
    }

    private static void firmOf() {
        for (int n = 2; n <= 7; n++) {
            BrideShoes x = new BrideShoes();
            int[] items = ranks(n);
            filled(x, 0, INTS, items);
            for (int b = 0; b < n; b++) {
                due("bride " + b + " of " + n, x.firm(0, INTS, 0, n, b), b);
            }
            for (int i = n * n; i < 2 * n * n; i++) {
                x.item(0, INTS, i, n - 1 - items[i]);
            }
            for (int b = 0; b < n; b++) {
                due("the last is liked best: bride " + b + " of " + n, x.firm(0, INTS, 0, n, b), n - 1 - b);
            }
        }
        BrideShoes y = new BrideShoes();
        // Each bride has the first of her row, though each groom likes her least.
        filled(y, 0, BYTES, 2, 1, 0, 0, 2, 1, 1, 0, 2, 2, 0, 1, 0, 1, 2, 1, 2, 0);
        due("bride 0", y.firm(0, BYTES, 0, 3, 0), 2);
        due("bride 1", y.firm(0, BYTES, 0, 3, 1), 0);
        due("bride 2", y.firm(0, BYTES, 0, 3, 2), 1);
    }

    private static void firmRanks() {
        for (int lane = 0; lane < 3; lane++) {
            BrideShoes x = new BrideShoes();
            // Brides' rows 01, 10, grooms' rows 10, 01; one item ahead, one behind.
            filled(x, 2, lane, 5, 0, 1, 1, 0, 1, 0, 0, 1, 5);
            due("from 1 on, bride 0", x.firm(2, lane, 1, 2, 0), 0);
            due("from 1 on, bride 1", x.firm(2, lane, 1, 2, 1), 1);
            due("from 0 on", x.firm(2, lane, 0, 2, 0), NOT);
            due("from 2 on", x.firm(2, lane, 2, 2, 0), NOT);
        }
        BrideShoes x = new BrideShoes();
        x.sheet(0, BYTES, 100);
        int[] items = ranks(7);
        for (int i = 0; i < items.length; i++) {
            x.item(0, BYTES, i + 2, items[i]);
        }
        due("98 items to the hundredth", x.firm(0, BYTES, 2, 7, 6), 6);
        due("from 3 on", x.firm(0, BYTES, 3, 7, 6), INDEX);
    }

    private static void firmBad() {
        BrideShoes x = new BrideShoes();
        filled(x, 0, BYTES, ranks(7));
        for (int v : outside(0, 3)) {
            due("sheet " + v, x.firm(v, BYTES, 0, 7, 0), BAD);
        }
        for (int v : outside(0, 2)) {
            due("lane " + v, x.firm(0, v, 0, 7, 0), BAD);
        }
        for (int v : outside(2, 7)) {
            due("n " + v, x.firm(0, BYTES, 0, v, 0), BAD);
        }
        for (int n = 2; n <= 7; n++) {
            for (int v : outside(0, n - 1)) {
                due("bride " + v + " of " + n, x.firm(0, BYTES, 0, n, v), BAD);
                due("ahead of NULL, bride " + v + " of " + n, x.firm(1, BYTES, 0, n, v), BAD);
            }
        }
        due("n: ahead of NULL", x.firm(1, BYTES, 0, 1, 0), BAD);
        due("lane: ahead of NULL", x.firm(1, 3, 0, 2, 0), BAD);
        due("bride: ahead of CAST", x.firm(0, INTS, 0, 7, 7), BAD);
        due("bride: ahead of INDEX", x.firm(0, BYTES, 1, 7, 7), BAD);
        due("the last bride", x.firm(0, BYTES, 0, 7, 6), 6);
    }

    private static void firmNull() {
        BrideShoes x = new BrideShoes();
        filled(x, 3, BYTES, ranks(2));
        for (int s = 0; s < 4; s++) {
            due("sheet " + s, x.firm(s, BYTES, 0, 2, 0), s == 3 ? 0 : NULL);
            due("sheet " + s + ", though beyond", x.firm(s, BYTES, 1, 2, 0), s == 3 ? INDEX : NULL);
        }
        x.drop(3);
        due("dropped", x.firm(3, BYTES, 0, 2, 0), NULL);
    }

    private static void firmCast() {
        BrideShoes x = new BrideShoes();
        for (int is = 0; is < 3; is++) {
            filled(x, 0, is, ranks(2));
            for (int as = 0; as < 3; as++) {
                due("lane " + is + " as " + as, x.firm(0, as, 0, 2, 0), is == as ? 0 : CAST);
                due("beyond, lane " + is + " as " + as, x.firm(0, as, 1, 2, 0), is == as ? INDEX : CAST);
            }
        }
    }

    private static void firmIndex() {
        for (int n = 2; n <= 7; n++) {
            BrideShoes x = new BrideShoes();
            filled(x, 0, BYTES, ranks(n));
            due("all of " + n, x.firm(0, BYTES, 0, n, 0), 0);
            for (int from : outside(0, 0)) {
                due("from " + from + ", " + n, x.firm(0, BYTES, from, n, 0), INDEX);
            }
            x.sheet(0, BYTES, 2 * n * n - 1);
            due("one too few for " + n, x.firm(0, BYTES, 0, n, 0), INDEX);
            due("ahead of NOT", x.firm(0, BYTES, -1, n, 0), INDEX);
        }
        BrideShoes y = new BrideShoes();
        y.sheet(0, BYTES, 0);
        due("an empty row", y.firm(0, BYTES, 0, 2, 0), INDEX);
    }

    private static void firmNot() {
        for (int n = 2; n <= 7; n++) {
            int[] good = ranks(n);
            for (int at = 0; at < good.length; at += n - 1) {
                BrideShoes x = new BrideShoes();
                filled(x, 0, INTS, good);
                for (int v : new int[] {-1, n, (good[at] + 1) % n, Integer.MIN_VALUE, Integer.MAX_VALUE, good[at] + 32}) {
                    x.item(0, INTS, at, v);
                    due("item " + at + " of " + n + " is " + v, x.firm(0, INTS, 0, n, 0), NOT);
                }
                x.item(0, INTS, at, good[at]);
                due("mended", x.firm(0, INTS, 0, n, n - 1), n - 1);
            }
        }
        BrideShoes y = new BrideShoes();
        filled(y, 0, BYTES, 0, 1, 0, 1, 0, 1, 0, 256 + 1);
        due("a byte's lowest bits are what it is", y.firm(0, BYTES, 0, 2, 1), 1);
    }

    private static void judgedPairs() {
        for (int lane = 0; lane < 3; lane++) {
            BrideShoes x = new BrideShoes();
            // By these ranks 0 with 1, 1 with 0 is firm, and the other way is not.
            filled(x, 0, lane, 9, 1, 0, 0, 1, 1, 0, 0, 1);
            filled(x, 1, lane, 1, 0, 9);
            due("on another sheet", x.judged(0, lane, 1, 2, 1), NONE);
            filled(x, 1, lane, 0, 1);
            due("on another sheet", x.judged(0, lane, 1, 2, 1), 1);
            filled(x, 2, lane, 1, 0, 1, 0, 0, 1, 1, 0, 0, 1);
            due("on the same sheet, ranks from 2 on", x.judged(2, lane, 2, 2, 2), NONE);
            filled(x, 2, lane, 0, 1, 1, 0, 0, 1, 1, 0, 0, 1);
            due("on the same sheet", x.judged(2, lane, 2, 2, 2), 1);
        }
        BrideShoes y = new BrideShoes();
        filled(y, 0, BYTES, ranks(7));
        due("on the same items", y.judged(0, BYTES, 0, 7, 0), NONE);
        filled(y, 1, BYTES, 6, 5, 4, 3, 2, 1, 0);
        due("seven", y.judged(0, BYTES, 0, 7, 1), 0);
    }

    private static void judgedFirst() {
        BrideShoes x = new BrideShoes();
        // All like the lower numbers more, so whoever is not with her number leaves.
        filled(x, 0, BYTES, ranks(7));
        int[][] pairs = {
            {1, 0, 2, 3, 4, 5, 6}, {0, 2, 1, 3, 4, 5, 6}, {0, 1, 2, 3, 4, 6, 5}, {0, 1, 2, 6, 4, 5, 3}, {0, 6, 5, 4, 3, 2, 1},
        };
        int[] want = {0, 11, 55, 33, 11};
        for (int i = 0; i < pairs.length; i++) {
            filled(x, 1, BYTES, pairs[i]);
            due("pairs " + i, x.judged(0, BYTES, 0, 7, 1), want[i]);
        }
        // Bride 1 likes groom 2 best, then 0, and both would leave with her: 0 has the least number.
        filled(x, 0, BYTES, 1, 0, 2, 2, 0, 1, 0, 2, 1, 1, 0, 2, 0, 1, 2, 1, 2, 0);
        filled(x, 1, BYTES, 0, 1, 2);
        due("of several the least number", x.judged(0, BYTES, 0, 3, 1), 1);
        filled(x, 0, BYTES, 0, 1, 2, 2, 0, 1, 2, 0, 1, 1, 0, 2, 0, 1, 2, 1, 2, 0);
        due("0 is content; of several the least number", x.judged(0, BYTES, 0, 3, 1), 10);
        filled(x, 0, BYTES, 0, 1, 2, 2, 0, 1, 2, 0, 1, 0, 1, 2, 0, 1, 2, 1, 2, 0);
        due("groom 0 would not, so the other", x.judged(0, BYTES, 0, 3, 1), 12);
    }

    private static void judgedBad() {
        BrideShoes x = new BrideShoes();
        filled(x, 0, BYTES, ranks(7));
        for (int v : outside(0, 3)) {
            due("sheet " + v, x.judged(v, BYTES, 0, 7, 0), BAD);
            due("pairs " + v, x.judged(0, BYTES, 0, 7, v), BAD);
            due("pairs " + v + ", ahead of NULL", x.judged(1, BYTES, 0, 7, v), BAD);
        }
        for (int v : outside(0, 2)) {
            due("lane " + v, x.judged(0, v, 0, 7, 0), BAD);
            due("lane " + v + ", ahead of NULL", x.judged(1, v, 0, 7, 1), BAD);
        }
        for (int v : outside(2, 7)) {
            due("n " + v, x.judged(0, BYTES, 0, v, 0), BAD);
            due("n " + v + ", ahead of NULL", x.judged(1, BYTES, 0, v, 1), BAD);
        }
        due("n 2", x.judged(0, BYTES, 0, 2, 0), NOT);
        due("n 7", x.judged(0, BYTES, 0, 7, 0), NONE);
    }

    private static void judgedRanksRefused() {
        BrideShoes x = new BrideShoes();
        due("NULL", x.judged(0, BYTES, 0, 2, 1), NULL);
        filled(x, 1, BYTES, 0, 1);
        due("NULL, though pairs are there", x.judged(0, BYTES, 0, 2, 1), NULL);
        due("NULL, though below the row", x.judged(0, BYTES, -1, 2, 1), NULL);
        filled(x, 0, SHORTS, ranks(2));
        due("CAST", x.judged(0, BYTES, 0, 2, 1), CAST);
        due("CAST, though beyond the row", x.judged(0, BYTES, 1, 2, 1), CAST);
        filled(x, 0, BYTES, ranks(2));
        due("NONE", x.judged(0, BYTES, 0, 2, 1), NONE);
        for (int from : outside(0, 0)) {
            due("INDEX from " + from, x.judged(0, BYTES, from, 2, 1), INDEX);
        }
        due("INDEX of three", x.judged(0, BYTES, 0, 3, 1), INDEX);
        due("INDEX, ahead of NULL of pairs", x.judged(0, BYTES, 1, 2, 2), INDEX);
        x.sheet(2, INTS, 0);
        due("INDEX, ahead of CAST of pairs", x.judged(0, BYTES, 1, 2, 2), INDEX);
        due("CAST, ahead of NULL of pairs", x.judged(0, INTS, 0, 2, 3), CAST);
    }

    private static void judgedPairsRefused() {
        BrideShoes x = new BrideShoes();
        filled(x, 0, BYTES, ranks(2));
        due("NULL", x.judged(0, BYTES, 0, 2, 1), NULL);
        filled(x, 1, INTS, 0);
        due("CAST, ahead of INDEX", x.judged(0, BYTES, 0, 2, 1), CAST);
        filled(x, 1, INTS, 0, 1);
        due("CAST", x.judged(0, BYTES, 0, 2, 1), CAST);
        filled(x, 1, BYTES, 0);
        due("INDEX", x.judged(0, BYTES, 0, 2, 1), INDEX);
        x.sheet(1, BYTES, 0);
        due("INDEX of an empty row", x.judged(0, BYTES, 0, 2, 1), INDEX);
        x.item(0, BYTES, 0, 9);
        due("INDEX, ahead of NOT of ranks", x.judged(0, BYTES, 0, 2, 1), INDEX);
        due("NULL, ahead of NOT of ranks", x.judged(0, BYTES, 0, 2, 2), NULL);
        filled(x, 1, SHORTS, 0, 1);
        due("CAST, ahead of NOT of ranks", x.judged(0, BYTES, 0, 2, 1), CAST);
        filled(x, 3, BYTES, ranks(3));
        filled(x, 1, BYTES, 0, 1);
        due("two are too few for three", x.judged(3, BYTES, 0, 3, 1), INDEX);
    }

    private static void judgedNot() {
        BrideShoes x = new BrideShoes();
        filled(x, 0, INTS, ranks(3));
        filled(x, 1, INTS, 0, 1, 2);
        due("as told", x.judged(0, INTS, 0, 3, 1), NONE);
        for (int at = 0; at < 3; at++) {
            for (int v : new int[] {-1, 3, (at + 1) % 3, at + 32, Integer.MIN_VALUE, Integer.MAX_VALUE}) {
                x.item(1, INTS, at, v);
                due("pair " + at + " is " + v, x.judged(0, INTS, 0, 3, 1), NOT);
            }
            x.item(1, INTS, at, at);
        }
        for (int at = 0; at < 18; at++) {
            for (int v : new int[] {-1, 3, (at + 1) % 3}) {
                x.item(0, INTS, at, v);
                due("rank " + at + " is " + v, x.judged(0, INTS, 0, 3, 1), NOT);
            }
            x.item(0, INTS, at, at % 3);
        }
        due("mended", x.judged(0, INTS, 0, 3, 1), NONE);
    }

    private static void judgedNone() {
        BrideShoes x = new BrideShoes();
        for (int n = 2; n <= 7; n++) {
            filled(x, 0, BYTES, ranks(n));
            filled(x, 1, BYTES, 0, 1, 2, 3, 4, 5, 6);
            due("each with her number, of " + n, x.judged(0, BYTES, 0, n, 1), NONE);
            filled(x, 1, BYTES, 1, 0, 2, 3, 4, 5, 6);
            due("0 and 1 the other way, of " + n, x.judged(0, BYTES, 0, n, 1), 0);
        }
        // Each bride likes another more, but none of these likes her more.
        filled(x, 0, BYTES, 1, 0, 0, 1, 0, 1, 1, 0);
        filled(x, 1, BYTES, 0, 1);
        due("brides alone would leave", x.judged(0, BYTES, 0, 2, 1), NONE);
        filled(x, 0, BYTES, 0, 1, 1, 0, 1, 0, 0, 1);
        due("grooms alone would leave", x.judged(0, BYTES, 0, 2, 1), NONE);
    }

    private static void sheets() {
        sentence(25, "A SHEET holds a new row of a LANE: n.", PromiseEdgeTests::sheetNew);
        sentence(25, "BAD: also n above 100;", PromiseEdgeTests::sheetBad);
        sentence(25, "SIZE: n below 0.", PromiseEdgeTests::sheetSize);
        sentence(26, "A SHEET holds nothing: how many items it had.", PromiseEdgeTests::dropHad);
        sentence(26, "BAD;", PromiseEdgeTests::dropBad);
        sentence(26, "NULL.", PromiseEdgeTests::dropNull);
        sentence(27, "Item i of a SHEET, taken as a row of a LANE, becomes v, its lowest bits (with its sign): 1.",
            PromiseEdgeTests::itemBecomes);
        sentence(27, "BAD;", PromiseEdgeTests::itemBad);
        sentence(27, "NULL;", PromiseEdgeTests::itemNull);
        sentence(27, "CAST;", PromiseEdgeTests::itemCast);
        sentence(27, "INDEX.", PromiseEdgeTests::itemIndex);
        sentence(28, "n items of a SHEET from i on come to another one (or the same) from j on, as if all were taken ahead: n.",
            PromiseEdgeTests::copyItems);
        sentence(28, "BAD;", PromiseEdgeTests::copyBad);
        sentence(28, "NULL (either);", PromiseEdgeTests::copyNull);
        sentence(28, "CAST: of unlike LANES;", PromiseEdgeTests::copyCast);
        sentence(28, "INDEX (n below 0, too; with n 0, too, if i or j is below 0 or above how many there are).",
            PromiseEdgeTests::copyIndex);
    }

    /** Of an object with bride 40/40 and a shoe l40: how many zeros a row begins with. */
    private static int zerosAhead(BrideShoes x, int sheet, int lane) {
        int i = 0;
        while (i <= 100 && x.changed(0, sheet, lane, i, 1, 0) == 0) {
            i++;
        }
        return i;
    }

    private static void sheetNew() {
        for (int lane = 0; lane < 3; lane++) {
            BrideShoes x = of("40/40", "l40");
            due("0", x.sheet(0, lane, 0), 0);
            due("1", x.sheet(1, lane, 1), 1);
            due("100", x.sheet(2, lane, 100), 100);
            due("all zeros", zerosAhead(x, 2, lane), 100);
            x.item(2, lane, 0, 7);
            x.item(2, lane, 99, 7);
            due("fewer", x.sheet(2, lane, 50), 50);
            due("new ones", zerosAhead(x, 2, lane), 50);
            x.item(2, lane, 3, 7);
            x.drop(2);
            due("more, after a drop", x.sheet(2, lane, 100), 100);
            due("new ones", zerosAhead(x, 2, lane), 100);
            due("of another lane", x.sheet(2, (lane + 1) % 3, 4), 4);
            due("the old lane", x.item(2, lane, 0, 0), CAST);
            due("the other sheet is as it was", x.drop(1), 1);
        }
    }

    private static void sheetBad() {
        BrideShoes x = new BrideShoes();
        for (int v : outside(0, 3)) {
            due("sheet " + v, x.sheet(v, BYTES, 1), BAD);
            due("sheet " + v + ", ahead of SIZE", x.sheet(v, BYTES, -1), BAD);
        }
        for (int v : outside(0, 2)) {
            due("lane " + v, x.sheet(0, v, 1), BAD);
            due("lane " + v + ", ahead of SIZE", x.sheet(0, v, -1), BAD);
        }
        due("nothing by that", x.drop(0), NULL);
        x.sheet(0, SHORTS, 5);
        due("n 101", x.sheet(0, SHORTS, 101), BAD);
        due("n, the most", x.sheet(0, SHORTS, Integer.MAX_VALUE), BAD);
        due("it is as it was", x.drop(0), 5);
        due("n 100", x.sheet(0, SHORTS, 100), 100);
    }

    private static void sheetSize() {
        BrideShoes x = new BrideShoes();
        due("n -1", x.sheet(0, BYTES, -1), SIZE);
        due("n, the least", x.sheet(0, BYTES, Integer.MIN_VALUE), SIZE);
        due("nothing by that", x.drop(0), NULL);
        x.sheet(0, SHORTS, 5);
        due("n -1", x.sheet(0, BYTES, -1), SIZE);
        due("it is as it was", x.item(0, SHORTS, 4, 0), 1);
        due("it is as it was", x.drop(0), 5);
        due("n 0", x.sheet(0, BYTES, 0), 0);
    }

    private static void dropHad() {
        BrideShoes x = new BrideShoes();
        int[] had = {0, 1, 99, 100};
        for (int s = 0; s < 4; s++) {
            x.sheet(s, s % 3, had[s]);
        }
        for (int s = 0; s < 4; s++) {
            due("sheet " + s, x.drop(s), had[s]);
            due("nothing then", x.item(s, s % 3, 0, 0), NULL);
            due("the next is as it was", s < 3 ? x.copy(s + 1, 0, s + 1, 0, 0) : 0, 0);
        }
    }

    private static void dropBad() {
        BrideShoes x = new BrideShoes();
        for (int s = 0; s < 4; s++) {
            x.sheet(s, BYTES, 1);
        }
        for (int v : outside(0, 3)) {
            due("sheet " + v, x.drop(v), BAD);
        }
        for (int s = 0; s < 4; s++) {
            due("sheet " + s + " is as it was", x.drop(s), 1);
        }
    }

    private static void dropNull() {
        BrideShoes x = new BrideShoes();
        for (int s = 0; s < 4; s++) {
            due("at first", x.drop(s), NULL);
            x.sheet(s, BYTES, 0);
            due("an empty one", x.drop(s), 0);
            due("twice", x.drop(s), NULL);
        }
    }

    /** Two brides who limp, as they had one another's shoe, told by items that became v and w: whether that is so. */
    private static void limpedDue(String brides, String heap, int lane, int v, int w, boolean isSo) {
        BrideShoes x = of(brides, heap);
        x.set(0, 0);
        x.sheet(0, lane, 2);
        due("item becomes " + v, x.item(0, lane, 0, v), 1);
        due("item becomes " + w, x.item(0, lane, 1, w), 1);
        due("as of lane " + lane + " they limped by " + v + ", " + w, x.changed(0, 0, lane, 0, 2, -1), isSo ? 1 : NONE);
    }

    private static void itemBecomes() {
        int[] beyond = {0, 256, -256, 65536, -65536, 65536 + 256, Integer.MIN_VALUE, Integer.MAX_VALUE - 65535};
        for (int lane = 0; lane < 3; lane++) {
            int lowest = lane == BYTES ? 255 : lane == SHORTS ? 65535 : -1;
            for (int more : beyond) {
                boolean isCut = (more & lowest) == 0;
                for (int limp : new int[] {1, 2, 39, 40}) {
                    String brides = "20/40," + (20 + limp) + "/40";
                    String heap = "l20,l" + (20 + limp);
                    limpedDue(brides, heap, lane, limp + more, -limp, isCut);
                    limpedDue(brides, heap, lane, limp, -limp + more, isCut);
                }
                limpedDue("20/40,60/40s4h11", "l20,l70", lane, 50 + more, -51 + more, isCut);
            }
        }
        limpedDue("20/40,21/40", "l20,l21", BYTES, 1, 255, true);
        limpedDue("20/40,21/40", "l20,l21", BYTES, 1, Integer.MAX_VALUE, true);
        limpedDue("20/40,21/40", "l20,l21", SHORTS, 1, 255, false);
        limpedDue("20/40,21/40", "l20,l21", SHORTS, 1, 65535, true);
        limpedDue("20/40,21/40", "l20,l21", SHORTS, 1, Integer.MAX_VALUE, true);
        limpedDue("20/40,21/40", "l20,l21", INTS, 1, 65535, false);
        limpedDue("20/40,21/40", "l20,l21", INTS, 1, Integer.MAX_VALUE, false);
        onesOwnLane();
    }

    /** What is cut in a smaller lane is not cut in a larger one. */
    private static void onesOwnLane() {
        BrideShoes x = of("40/40", "l40");
        int[] v = {256, 65536, Integer.MIN_VALUE, 128, 32768};
        for (int lane = 0; lane < 3; lane++) {
            filled(x, 0, lane, v);
            for (int i = 0; i < v.length; i++) {
                boolean isZero = lane == BYTES && i < 3 || lane == SHORTS && (i == 1 || i == 2) || lane == BYTES && i == 4;
                due(v[i] + " of lane " + lane, x.changed(0, 0, lane, i, 1, -1), isZero ? 1 : NONE);
            }
        }
        filled(x, 0, INTS, 7, 7, 7);
        due("the first", x.item(0, INTS, 0, 0), 1);
        due("that alone", zerosAhead(x, 0, INTS), 1);
        due("the last", x.item(0, INTS, 2, 0), 1);
        due("the middle one is as it was", zerosAhead(x, 0, INTS), 1);
        due("the middle one", x.item(0, INTS, 1, 0), 1);
        due("all", zerosAhead(x, 0, INTS), 3);
    }

    private static void itemBad() {
        BrideShoes x = new BrideShoes();
        x.sheet(0, BYTES, 1);
        for (int v : outside(0, 3)) {
            due("sheet " + v, x.item(v, BYTES, 0, 0), BAD);
        }
        for (int v : outside(0, 2)) {
            due("lane " + v, x.item(0, v, 0, 0), BAD);
            due("lane " + v + ", ahead of NULL", x.item(1, v, 0, 0), BAD);
            due("lane " + v + ", ahead of INDEX", x.item(0, v, 1, 0), BAD);
        }
        due("any v will do", x.item(0, BYTES, 0, Integer.MIN_VALUE), 1);
        due("any v will do", x.item(0, BYTES, 0, Integer.MAX_VALUE), 1);
    }

    private static void itemNull() {
        BrideShoes x = new BrideShoes();
        x.sheet(2, BYTES, 1);
        for (int s = 0; s < 4; s++) {
            due("sheet " + s, x.item(s, BYTES, 0, 0), s == 2 ? 1 : NULL);
            due("sheet " + s + ", though beyond", x.item(s, BYTES, 1, 0), s == 2 ? INDEX : NULL);
        }
        x.drop(2);
        due("dropped", x.item(2, BYTES, 0, 0), NULL);
    }

    private static void itemCast() {
        BrideShoes x = of("40/40", "l40");
        for (int is = 0; is < 3; is++) {
            for (int as = 0; as < 3; as++) {
                x.sheet(0, is, 1);
                due("lane " + is + " as " + as, x.item(0, as, 0, 7), is == as ? 1 : CAST);
                due("beyond, lane " + is + " as " + as, x.item(0, as, 1, 7), is == as ? INDEX : CAST);
                due("refused, it is as it was", zerosAhead(x, 0, is), is == as ? 0 : 1);
            }
        }
    }

    private static void itemIndex() {
        BrideShoes x = of("40/40", "l40");
        for (int n : new int[] {0, 1, 50, 100}) {
            x.sheet(0, BYTES, n);
            for (int i : outside(0, n - 1)) {
                due("item " + i + " of " + n, x.item(0, BYTES, i, 7), INDEX);
            }
            due("all are as they were", zerosAhead(x, 0, BYTES), n);
        }
        x.sheet(0, BYTES, 100);
        x.sheet(0, BYTES, 3);
        due("as many as there are now", x.item(0, BYTES, 3, 7), INDEX);
    }

    /** Items from first on of a sheet of ints are ranks of two: brides like groom 0, grooms like bride 1 more. */
    private static int ranksAt(BrideShoes x, int sheet, int first) {
        return x.firm(sheet, INTS, first, 2, 0);
    }

    private static void copyItems() {
        int[] ranks = {0, 1, 0, 1, 1, 0, 1, 0};
        for (int by = 1; by <= 9; by++) {
            BrideShoes x = new BrideShoes();
            filled(x, 0, INTS, ranks);
            x.sheet(1, INTS, 8 + by);
            due("to another", x.copy(0, 0, 1, by, 8), 8);
            due("they are there", ranksAt(x, 1, by), 1);
            due("and here", ranksAt(x, 0, 0), 1);
            due("to the left by " + by, x.copy(1, by, 1, 0, 8), 8);
            due("as if all were taken ahead", ranksAt(x, 1, 0), 1);
            due("to the right by " + by, x.copy(1, 0, 1, by, 8), 8);
            due("as if all were taken ahead", ranksAt(x, 1, by), 1);
            due("on themselves", x.copy(1, by, 1, by, 8), 8);
            due("they are there", ranksAt(x, 1, by), 1);
        }
        BrideShoes y = of("40/40", "l40");
        filled(y, 0, BYTES, 7, 7, 7, 7, 7);
        y.sheet(1, BYTES, 5);
        due("one of five", y.copy(1, 4, 0, 0, 1), 1);
        due("one", zerosAhead(y, 0, BYTES), 1);
        due("none", y.copy(1, 0, 0, 1, 0), 0);
        due("still one", zerosAhead(y, 0, BYTES), 1);
        due("all", y.copy(1, 0, 0, 0, 5), 5);
        due("five", zerosAhead(y, 0, BYTES), 5);
        y.item(1, BYTES, 0, 7);
        due("they are not shared", zerosAhead(y, 0, BYTES), 5);
        y.sheet(2, SHORTS, 100);
        y.sheet(3, SHORTS, 100);
        due("a hundred", y.copy(2, 0, 3, 0, 100), 100);
    }

    private static void copyBad() {
        BrideShoes x = new BrideShoes();
        x.sheet(0, BYTES, 1);
        for (int v : outside(0, 3)) {
            due("from " + v, x.copy(v, 0, 0, 0, 1), BAD);
            due("to " + v, x.copy(0, 0, v, 0, 1), BAD);
            due("from " + v + ", ahead of NULL", x.copy(v, 0, 1, 0, 1), BAD);
            due("to " + v + ", ahead of NULL", x.copy(1, 0, v, 0, 1), BAD);
            due("to " + v + ", ahead of INDEX", x.copy(0, 9, v, 0, -1), BAD);
        }
        due("the same", x.copy(0, 0, 0, 0, 1), 1);
    }

    private static void copyNull() {
        BrideShoes x = new BrideShoes();
        x.sheet(1, BYTES, 3);
        for (int s = 0; s < 4; s++) {
            due("from " + s, x.copy(s, 0, 1, 0, 3), s == 1 ? 3 : NULL);
            due("to " + s, x.copy(1, 0, s, 0, 3), s == 1 ? 3 : NULL);
            due("of none, from " + s, x.copy(s, 0, 1, 0, 0), s == 1 ? 0 : NULL);
            due("ahead of INDEX, from " + s, x.copy(s, -1, 1, 0, -1), s == 1 ? INDEX : NULL);
            due("ahead of INDEX, to " + s, x.copy(1, -1, s, 0, -1), s == 1 ? INDEX : NULL);
        }
        due("both", x.copy(0, 0, 2, 0, 0), NULL);
        // A dropped sheet has a lane no more.
        x.sheet(0, INTS, 3);
        x.drop(0);
        due("dropped", x.copy(0, 0, 1, 0, 1), NULL);
        due("dropped", x.copy(1, 0, 0, 0, 1), NULL);
    }

    private static void copyCast() {
        for (int is = 0; is < 3; is++) {
            for (int as = 0; as < 3; as++) {
                BrideShoes x = of("40/40", "l40");
                filled(x, 0, is, 7, 7);
                x.sheet(1, as, 2);
                due("lane " + is + " to " + as, x.copy(0, 0, 1, 0, 2), is == as ? 2 : CAST);
                due("of none, lane " + is + " to " + as, x.copy(0, 0, 1, 0, 0), is == as ? 0 : CAST);
                due("beyond, lane " + is + " to " + as, x.copy(0, 0, 1, 0, 3), is == as ? INDEX : CAST);
                due("refused, it is as it was", zerosAhead(x, 1, as), is == as ? 0 : 2);
            }
        }
    }

    private static void copyIndex() {
        BrideShoes x = of("40/40", "l40");
        filled(x, 0, BYTES, 7, 7, 7, 7, 7);
        x.sheet(1, BYTES, 3);
        for (int n : new int[] {-1, 4, Integer.MIN_VALUE, Integer.MAX_VALUE}) {
            due("n " + n, x.copy(0, 0, 1, 0, n), INDEX);
        }
        for (int i : outside(0, 5)) {
            due("of none, i " + i, x.copy(0, i, 1, 0, 0), INDEX);
            due("i " + i, x.copy(0, i, 1, 0, 1), INDEX);
        }
        for (int j : outside(0, 3)) {
            due("of none, j " + j, x.copy(0, 0, 1, j, 0), INDEX);
            due("j " + j, x.copy(0, 0, 1, j, 1), INDEX);
        }
        due("of none, at the ends", x.copy(0, 5, 1, 3, 0), 0);
        due("one at the end of the first", x.copy(0, 5, 1, 0, 1), INDEX);
        due("one at the end of the second", x.copy(0, 0, 1, 3, 1), INDEX);
        due("one too many of the first", x.copy(0, 3, 1, 0, 3), INDEX);
        due("one too many for the second", x.copy(0, 0, 1, 1, 3), INDEX);
        due("i and n wrap around", x.copy(0, Integer.MAX_VALUE, 1, 0, Integer.MAX_VALUE), INDEX);
        due("j and n wrap around", x.copy(0, 0, 1, Integer.MAX_VALUE, 3), INDEX);
        due("n below 0, i beyond", x.copy(0, 6, 1, 0, -1), INDEX);
        due("refused, all are as they were", zerosAhead(x, 1, BYTES), 3);
        due("three to the end", x.copy(0, 2, 1, 0, 3), 3);
        x.sheet(2, BYTES, 0);
        due("none to an empty row", x.copy(0, 0, 2, 0, 0), 0);
        due("one to an empty row", x.copy(0, 0, 2, 0, 1), INDEX);
        due("none of an empty row", x.copy(2, 0, 0, 5, 0), 0);
    }
}
