import java.io.IOException;
import java.util.ArrayList;
import java.util.List;

/** The sentences of the document's Terms, each with a test of its own for the edges that it names. */
public final class TermEdgeTests extends Sentences {
    private static final int PLAIN = 0, GLASS = 1, GIVING = 2, PATCHED = 3;
    private static final int LOOSE = 0, OUT = 1;
    private static final String SEVEN = "40/41,42/43,44/45,46/47,48/49,50/51,52/53s4h11";
    private static final String SIXTEEN = "l40,l42,l44,l46,l48,l50,l52,l63,r41,r43,r45,r47,r49,r51,r53,r64";

    public static void main(String[] args) throws IOException {
        readDocument();
        sentence(WHAT_IT_IS, "An object is used for at most 512 calls after it has been made;", TermEdgeTests::manyCalls);
        refusals();
        brides();
        shoes();
        shoesForAll();
        triesAndRanks();
        texts();
        sheets();
        allTested(TERMS, TERMS);
        end("all terms hold");
    }

    private static void manyCalls() {
        BrideShoes x = new BrideShoes();
        for (int b = 0; b < 7; b++) {
            due("bride " + b, x.bride(40 + b, 40, 0, 0), b);
        }
        for (int s = 0; s < 16; s++) {
            due("shoe " + s, x.shoe(0, 40 + s % 8, s & 1), s);
        }
        for (int call = 24; call <= 508; call += 4) {
            due("call " + call, x.most(0), 7);
            due("call " + (call + 1), x.chain(0), 1);
            due("call " + (call + 2), x.tries(0, 39, 48, 0), 3);
            due("call " + (call + 3), x.shod(0, 6), 6);
        }
        due("call 512", x.shod(0, -1), 0);
    }

    // ---- refusals

    private static void refusals() {
        term("Refusals are answers, of several the first that a call names:", TermEdgeTests::firstRefusal);
        term("BAD -1 (a number is not as told, or names nothing)", TermEdgeTests::badNumbers);
        term("NOT -2 (as told)", TermEdgeTests::notAsTold);
        term("FULL -3", TermEdgeTests::full);
        term("NONE -4 (as told)", TermEdgeTests::none);
        term("CAST -12 (of SHEETS another LANE)", TermEdgeTests::otherLanes);
        term("what the machine finds: NULL -11, INDEX -13, SIZE -14", TermEdgeTests::machineFinds);
        term("(NULL, CAST, INDEX, SIZE in this order, behind BAD)", TermEdgeTests::orderOfTheMachine);
        term("Where a told thing may be below 0, refused ones are 100000 less (-100001 and so on).", TermEdgeTests::less);
        term("What is refused changes nothing, but as told.", TermEdgeTests::refusedChangesNothing);
        term("Sets are bits.", TermEdgeTests::sets);
        term("Divisions are cut.", TermEdgeTests::divisions);
    }

    private static void term(String words, Runnable test) {
        sentence(TERMS, words, test);
    }

    private static void firstRefusal() {
        BrideShoes x = of(SEVEN, SIXTEEN);
        due("bride: BAD, though FULL", x.bride(61, 40, 0, 0), BAD);
        due("shoe: BAD, though FULL", x.shoe(0, 71, 0), BAD);
        fillTape(x, 120);
        due("type: BAD, though FULL", x.type(31, 1), BAD);
        due("asked: BAD, though it does not go", x.asked(15, 0, 12), BAD);
        x.lose(7, true);
        due("not for all", x.shod(0, 6), NONE);
        due("shod: BAD, though not for all", x.shod(0, 7), BAD);
        due("chain: BAD, though not for all", x.chain(16), BAD);
        due("chain: NOT, though not all have one", x.chain(0), NOT);
        due("tries: BAD, though none tell apart", x.tries(0, 20, 61, 0), BAD);
        x.lose(7, false);
        ladderOfChanged(x);
        ladderOfFirm();
        ladderOfJudged();
    }

    /** All that is wrong at once, mended from the first to the last. */
    private static void ladderOfChanged(BrideShoes x) {
        x.lose(7, true);
        due("changed: BAD, though no way for all", x.changed(0, 1, INTS, -1, 6, 6), BAD);
        due("changed: NOT, though nothing on the sheet", x.changed(0, 1, INTS, -1, 6, 5), NOT);
        x.sheet(1, BYTES, 6);
        due("changed: NOT, though another lane", x.changed(0, 1, INTS, -1, 6, 5), NOT);
        due("changed: NOT, though beyond the row", x.changed(0, 1, BYTES, 1, 6, 5), NOT);
        x.drop(1);
        x.lose(7, false);
        due("changed: NULL, though below the row", x.changed(0, 1, INTS, -1, 6, 5), NULL);
        x.sheet(1, BYTES, 6);
        x.item(1, BYTES, 0, 99);
        due("changed: CAST, though below the row", x.changed(0, 1, INTS, -1, 6, 5), CAST);
        due("changed: INDEX, though none limps by 99", x.changed(0, 1, BYTES, 1, 6, 5), INDEX);
        due("changed: NONE at last", x.changed(0, 1, BYTES, 0, 6, 5), NONE);
    }

    private static void ladderOfFirm() {
        BrideShoes x = new BrideShoes();
        due("firm: BAD, though nothing on the sheet", x.firm(0, INTS, -1, 2, 2), BAD);
        due("firm: NULL, though below the row", x.firm(0, INTS, -1, 2, 1), NULL);
        filled(x, 0, BYTES, 0, 0, 1, 0, 0, 1, 0, 1, 0);
        due("firm: CAST, though below the row", x.firm(0, INTS, -1, 2, 1), CAST);
        due("firm: INDEX, though no ranks", x.firm(0, BYTES, 2, 2, 1), INDEX);
        due("firm: NOT at last", x.firm(0, BYTES, 0, 2, 1), NOT);
    }

    private static void ladderOfJudged() {
        BrideShoes x = new BrideShoes();
        due("judged: BAD, though nothing on the sheets", x.judged(0, INTS, -1, 2, 4), BAD);
        due("judged: NULL of ranks", x.judged(0, INTS, -1, 2, 1), NULL);
        filled(x, 0, BYTES, 0, 0, 0, 0, 0, 0, 0, 0);
        due("judged: CAST of ranks, though no pairs", x.judged(0, INTS, -1, 2, 1), CAST);
        due("judged: INDEX of ranks, though no pairs", x.judged(0, BYTES, -1, 2, 1), INDEX);
        due("judged: NULL of pairs, though no ranks", x.judged(0, BYTES, 0, 2, 1), NULL);
        filled(x, 1, INTS, 0);
        due("judged: CAST of pairs, though too few", x.judged(0, BYTES, 0, 2, 1), CAST);
        filled(x, 1, BYTES, 0);
        due("judged: INDEX of pairs, though no ranks", x.judged(0, BYTES, 0, 2, 1), INDEX);
        filled(x, 1, BYTES, 0, 1);
        due("judged: NOT, though the pairs are as told", x.judged(0, BYTES, 0, 2, 1), NOT);
        filled(x, 0, BYTES, 0, 1, 1, 0, 0, 1, 1, 0);
        due("judged: NONE at last", x.judged(0, BYTES, 0, 2, 1), NONE);
    }

    private static void badNumbers() {
        due("BAD", BrideShoes.BAD, -1);
        BrideShoes x = of("40/41,42/43", "l40,r41,l42");
        due("a number is not as told: bride", x.bride(19, 40, 0, 0), -1);
        due("a number is not as told: set", x.set(0, 7), -1);
        due("a number is not as told: type", x.type(65, 9), -1);
        due("a number is not as told: sheet", x.sheet(0, 3, 1), -1);
        due("names nothing: bride 2", x.make(2, 0, 40), -1);
        due("names nothing: shoe 3", x.told(3, 0), -1);
        due("names nothing: SETTING 2", x.set(2, 1), -1);
        due("names nothing: what 5", x.count(5), -1);
        due("names nothing: sheet 4", x.drop(4), -1);
        due("names nothing: bride -1", x.foot(-1, 0, 0), -1);
        due("names nothing: shoe -1", x.whose(-1, 0), -1);
    }

    private static void notAsTold() {
        due("NOT", BrideShoes.NOT, -2);
        BrideShoes x = of("40/40", "l40,l41");
        due("chain of a shoe on no foot", x.chain(1), -2);
        due("changed without a way for all", x.changed(1, 0, BYTES, 0, 1, 0), -2);
        filled(x, 0, BYTES, 0, 0, 0, 0, 0, 0, 0, 0);
        due("firm of no ranks", x.firm(0, BYTES, 0, 2, 0), -2);
        due("judged of no ranks", x.judged(0, BYTES, 0, 2, 0), -2);
    }

    private static void full() {
        due("FULL", BrideShoes.FULL, -3);
        BrideShoes x = of(SEVEN, SIXTEEN);
        due("an eighth bride", x.bride(40, 40, 0, 0), -3);
        due("a seventeenth shoe", x.shoe(0, 40, 0), -3);
        fillTape(x, 120);
        due("a 121st byte", x.type('x', 1), -3);
    }

    private static void none() {
        due("NONE", BrideShoes.NONE, -4);
        BrideShoes x = of("40/40", "l40,l50");
        due("asked of what does not go", x.asked(1, 0, 0), -4);
        due("shod of no way", x.shod(1, -1), -4);
        due("chain, then not all have one", x.chain(0), -4);
        due("tries of what is not told apart", x.tries(1, 40, 41, 0), -4);
        due("restore of no image", x.restore(), -4);
        filled(x, 0, BYTES, 9);
        due("changed without a row", x.changed(0, 0, BYTES, 0, 1, -1), -4);
    }

    private static void otherLanes() {
        due("CAST", BrideShoes.CAST, -12);
        for (int is = 0; is < 3; is++) {
            for (int as = 0; as < 3; as++) {
                BrideShoes x = of("40/40", "l40");
                filled(x, 0, is, 0, 1, 1, 0, 0, 1, 1, 0);
                filled(x, 1, as, 0, 1);
                String of = " of lane " + is + " as of " + as;
                due("item" + of, x.item(0, as, 0, 0), is == as ? 1 : -12);
                due("firm" + of, x.firm(0, as, 0, 2, 0), is == as ? 0 : -12);
                due("judged" + of, x.judged(0, as, 0, 2, 1), is == as ? -4 : -12);
                due("judged, pairs" + of, x.judged(0, is, 0, 2, 1), is == as ? -4 : -12);
                due("changed" + of, x.changed(0, 0, as, 0, 1, -1), is == as ? 1 : -12);
                due("copy" + of, x.copy(0, 0, 1, 0, 1), is == as ? 1 : -12);
                due("copy to" + of, x.copy(1, 0, 0, 0, 1), is == as ? 1 : -12);
            }
        }
    }

    private static void machineFinds() {
        due("NULL", BrideShoes.NULL, -11);
        due("INDEX", BrideShoes.INDEX, -13);
        due("SIZE", BrideShoes.SIZE, -14);
        BrideShoes x = new BrideShoes();
        due("nothing on the sheet", x.item(0, BYTES, 0, 0), -11);
        due("a row below 0", x.sheet(0, BYTES, -1), -14);
        due("a row of none", x.sheet(0, BYTES, 0), 0);
        due("beyond the row", x.item(0, BYTES, 0, 0), -13);
    }

    private static void orderOfTheMachine() {
        BrideShoes x = new BrideShoes();
        due("BAD ahead of SIZE: sheet", x.sheet(4, BYTES, -1), BAD);
        due("BAD ahead of SIZE: lane", x.sheet(0, 3, -1), BAD);
        due("BAD ahead of NULL", x.item(0, 3, -1, 0), BAD);
        due("NULL ahead of INDEX", x.item(0, BYTES, -1, 0), NULL);
        due("copy: NULL ahead of INDEX", x.copy(0, -1, 1, -1, -1), NULL);
        x.sheet(0, SHORTS, 2);
        due("BAD ahead of CAST", x.item(0, 3, -1, 0), BAD);
        due("CAST ahead of INDEX", x.item(0, BYTES, -1, 0), CAST);
        due("copy: NULL of the other ahead of INDEX", x.copy(0, -1, 1, -1, -1), NULL);
        due("copy: NULL of the one ahead of INDEX", x.copy(1, -1, 0, -1, -1), NULL);
        x.sheet(1, INTS, 2);
        due("copy: CAST ahead of INDEX", x.copy(0, -1, 1, -1, -1), CAST);
        due("copy: BAD ahead of CAST", x.copy(0, -1, 4, -1, -1), BAD);
        due("BAD ahead of INDEX", x.item(0, -1, 2, 0), BAD);
        due("INDEX at last", x.item(0, SHORTS, 2, 0), INDEX);
    }

    private static void less() {
        BrideShoes x = of("40/40", "l39,l40,l43,l30g");
        due("no such bride", x.limps(1, 0, 0), -100001);
        due("no such shoe", x.limps(0, 4, 0), -100001);
        due("no such hour", x.limps(0, 0, 12), -100001);
        due("below 0 is an answer, as BAD would be", x.limps(0, 0, 0), -1);
        due("below 0 is an answer", x.limps(0, 3, 0), -10);
        due("above 0", x.limps(0, 2, 0), 1);
    }

    private static final int PARTY = 0, TAPE_AND_IMAGE = 1, ON_SHEETS = 2;

    private static void refusedChangesNothing() {
        for (int part = PARTY; part <= ON_SHEETS; part++) {
            BrideShoes full = furnished(SEVEN, SIXTEEN);
            refuse(full);
            refuseWhatIsFull(full);
            alike(part, full, furnished(SEVEN, SIXTEEN));
            BrideShoes half = furnished("40/41,42/43s2h8", "l40,r41p,l45g");
            refuse(half);
            alike(part, half, furnished("40/41,42/43s2h8", "l40,r41p,l45g"));
            BrideShoes bare = new BrideShoes();
            refuse(bare);
            due("restore without an image", bare.restore(), NONE);
            alike(part, bare, new BrideShoes());
        }
        butAsTold();
    }

    /** What a refused text does change, as told: the tape is empty. */
    private static void butAsTold() {
        BrideShoes x = of("40/41", "l40");
        typed(x, "40/41;");
        due("a fault", x.brides(), -25);
        due("the tape is empty", x.type('l', 1), 1);
        due("a fault", x.heap(), -21);
        due("the tape is empty", x.type('l', 1), 1);
    }

    /** An object with an image of another state, a tape of 118 bytes, sheets of each lane and one of nothing. */
    private static BrideShoes furnished(String brides, String heap) {
        BrideShoes x = of("30/31s1h2,32/33", "l30,r31v,l32");
        x.lose(1, true);
        x.set(LOOSE, 4);
        x.set(OUT, 1);
        x.image();
        tell(x, brides, heap);
        x.lose(0, true);
        x.set(LOOSE, 1);
        x.set(OUT, 5);
        filled(x, 0, BYTES, 0, -1, -2, -3, -4);
        filled(x, 1, SHORTS, -5, -6, 0);
        x.sheet(2, INTS, 0);
        typed(x, "l40,r41,l42,r43" + " ".repeat(103));
        return x;
    }

    private static void refused(String call, int answer) {
        due(call + " is refused (" + answer + ")", answer < 0 ? 1 : 0, 1);
    }

    private static void refuse(BrideShoes x) {
        int brides = x.count(0);
        int shoes = x.count(1);
        refused("bride", x.bride(61, 40, 4, 11));
        refused("bride", x.bride(40, 19, 4, 11));
        refused("bride", x.bride(40, 40, 5, 11));
        refused("bride", x.bride(40, 40, 4, 12));
        refused("shoe", x.shoe(2, 40, 0));
        refused("shoe", x.shoe(0, 71, 0));
        refused("shoe", x.shoe(0, 40, 4));
        for (int what = -1; what <= 4; what++) {
            refused("make " + what, x.make(brides, what, 20));
            refused("make " + what, x.make(-1, what, 20));
            refused("make " + what, x.make(0, what, what < 2 ? 19 : 12));
            refused("make " + what, x.make(0, what, 61));
        }
        refused("lose", x.lose(shoes, true));
        refused("lose", x.lose(-1, true));
        for (int what = -1; what <= 2; what++) {
            refused("set " + what, x.set(what, 7));
            refused("set " + what, x.set(what, -1));
        }
        refused("set", x.set(2, 0));
        refused("type", x.type(' ', 0));
        refused("type", x.type(' ', 9));
        refused("type", x.type(0x207F, 2));
        refused("type", x.type(0x1F20, 2));
        refuseOfSheets(x);
    }

    private static void refuseOfSheets(BrideShoes x) {
        for (int s = 0; s < 4; s++) {
            for (int lane = 0; lane < 3; lane++) {
                refused("sheet below 0", x.sheet(s, lane, -1));
                refused("sheet above 100", x.sheet(s, lane, 101));
                refused("item -1", x.item(s, lane, -1, 7));
                refused("item 5", x.item(s, lane, 5, 7));
            }
            refused("sheet", x.sheet(s, 3, 9));
            refused("item", x.item(s, 3, 0, 7));
            refused("copy too many", x.copy(s, 0, s, 1, 5));
            refused("copy too many", x.copy(s, 1, s, 0, 5));
            refused("copy below 0", x.copy(s, 0, s, 1, -1));
            refused("copy to nothing", x.copy(s, 0, 3, 0, 0));
            refused("copy of nothing", x.copy(3, 0, s, 0, 0));
        }
        refused("item of another lane", x.item(0, INTS, 0, 7));
        refused("copy to another lane", x.copy(0, 0, 1, 0, 3));
        refused("drop", x.drop(3));
        refused("drop", x.drop(4));
    }

    private static void refuseWhatIsFull(BrideShoes x) {
        refused("bride, full", x.bride(20, 20, 0, 0));
        refused("shoe, full", x.shoe(0, 20, 0));
        refused("type, full", x.type(0x202020, 3));
    }

    private static void alike(int part, BrideShoes x, BrideShoes y) {
        List<Integer> of = toldOf(part, x);
        List<Integer> asOf = toldOf(part, y);
        due("as many things told", of.size(), asOf.size());
        for (int i = 0; i < Math.min(of.size(), asOf.size()); i++) {
            due("thing " + i + " of part " + part + " is as it was", of.get(i), asOf.get(i));
        }
    }

    /** All that can be told of a part of an object, a part each time, as an object is good for 512 calls. */
    private static List<Integer> toldOf(int part, BrideShoes x) {
        List<Integer> told = new ArrayList<>();
        switch (part) {
            case PARTY:
                tellParty(x, told);
                break;
            case TAPE_AND_IMAGE:
                told.add(x.type(' ', 1));
                told.add(x.heap());
                told.add(x.restore());
                tellParty(x, told);
                break;
            default:
                tellSheets(x, told);
        }
        return told;
    }

    private static void tellSheets(BrideShoes x, List<Integer> told) {
        for (int s = 0; s < 4; s++) {
            for (int lane = 0; lane < 3; lane++) {
                told.add(x.item(s, lane, -1, 0));
            }
        }
        x.set(LOOSE, 0);
        x.set(OUT, 6);
        x.brides();
        for (int limp = 0; limp >= -6; limp--) {
            tell(x, "40/40", "l" + (40 + limp));
            for (int i = 0; i < 6; i++) {
                told.add(x.changed(0, 0, BYTES, i, 1, -1));
                told.add(x.changed(0, 1, SHORTS, i, 1, -1));
            }
        }
        for (int s = 0; s < 4; s++) {
            told.add(x.drop(s));
        }
    }

    private static void tellParty(BrideShoes x, List<Integer> told) {
        for (int what = 0; what <= 4; what++) {
            told.add(x.count(what));
        }
        for (int b = 0; b < 7; b++) {
            told.add(x.foot(b, 0, 0));
            told.add(x.foot(b, 1, 4));
            int hour = x.make(b, 3, 0);
            told.add(hour);
            x.make(b, 3, hour);
        }
        for (int s = 0; s < 16; s++) {
            told.add(x.told(s, 0));
            told.add(x.told(s, 1));
            told.add(x.told(s, 2));
            told.add(x.told(s, 3));
        }
        for (int what = 0; what < 2; what++) {
            int was = x.set(what, 0);
            told.add(was);
            x.set(what, was);
        }
    }

    private static void sets() {
        BrideShoes x = of("40/40,50/40,40/50,50/50,50/50,50/50,40/40", "l40,r40,l50,l20");
        due("left 40: brides 0, 2, 6", x.whose(0, 0), 1 + 4 + 64);
        due("right 40: brides 0, 1, 6", x.whose(1, 0), 1 + 2 + 64);
        due("left 50: brides 1, 3, 4, 5", x.whose(2, 0), 2 + 8 + 16 + 32);
        due("nobody", x.whose(3, 0), 0);
        due("all", of("40/40,40/40,40/40,40/40,40/40,40/40,40/40", "l40").whose(0, 0), 127);
    }

    private static void divisions() {
        BrideShoes x = of("40/40s1,40/40s3", "");
        due("3 by 4", x.foot(0, 0, 3), 40);
        due("4 by 4", x.foot(0, 0, 4), 41);
        due("7 by 4", x.foot(0, 0, 7), 41);
        due("3 by 4", x.foot(1, 0, 1), 40);
        due("15 by 4", x.foot(1, 0, 5), 43);
        due("33 by 4", x.foot(1, 1, 11), 48);
    }

    private static void fillTape(BrideShoes x, int bytes) {
        for (int i = 1; i <= bytes; i++) {
            due("byte " + i, x.type(' ', 1), i);
        }
    }

    // ---- 1 brides, shoes

    private static void brides() {
        term("BRIDES 0 .. 6, as they come,", TermEdgeTests::bridesAsTheyCome);
        term("have a LEFT and a RIGHT foot (SIZE 20 .. 60 halves each),", TermEdgeTests::sizesOfFeet);
        term("SWELL (0 .. 4 halves in 4 HOURS),", TermEdgeTests::swells);
        term("are wed at an HOUR (0 .. 11).", TermEdgeTests::hours);
        term("A foot at an HOUR is its SIZE, and HOUR times SWELL by 4.", TermEdgeTests::feet);
    }

    private static void bridesAsTheyCome() {
        BrideShoes x = new BrideShoes();
        for (int b = 0; b < 7; b++) {
            due("bride " + b + " is none yet", x.foot(b, 0, 0), BAD);
            due("bride " + b, x.bride(30 + b, 40 + b, 0, 0), b);
            due("she is there", x.foot(b, 0, 0), 30 + b);
        }
        for (int b : outside(0, 6)) {
            due("bride " + b, x.foot(b, 0, 0), BAD);
        }
        due("the first is still she", x.foot(0, 1, 0), 40);
        due("the last", x.foot(6, 1, 0), 46);
    }

    private static void sizesOfFeet() {
        BrideShoes x = new BrideShoes();
        for (int v : outside(20, 60)) {
            due("left " + v, x.bride(v, 40, 0, 0), BAD);
            due("right " + v, x.bride(40, v, 0, 0), BAD);
        }
        due("left 20, right 60", x.bride(20, 60, 0, 0), 0);
        due("left 60, right 20", x.bride(60, 20, 0, 0), 1);
        for (int v : outside(20, 60)) {
            due("left becomes " + v, x.make(0, 0, v), BAD);
            due("right becomes " + v, x.make(0, 1, v), BAD);
        }
        due("left", x.foot(0, 0, 11), 20);
        due("right", x.foot(0, 1, 11), 60);
        due("left of 1", x.foot(1, 0, 0), 60);
        due("right of 1", x.foot(1, 1, 0), 20);
    }

    private static void swells() {
        BrideShoes x = new BrideShoes();
        for (int v : outside(0, 4)) {
            due("swell " + v, x.bride(40, 40, v, 0), BAD);
        }
        for (int v = 0; v <= 4; v++) {
            due("swell " + v, x.bride(40, 50, v, 0), v);
            due("in 4 hours", x.foot(v, 0, 4), 40 + v);
            due("in 8 hours", x.foot(v, 1, 8), 50 + 2 * v);
        }
        for (int v : outside(0, 4)) {
            due("swell becomes " + v, x.make(0, 2, v), BAD);
        }
    }

    private static void hours() {
        BrideShoes x = new BrideShoes();
        for (int v : outside(0, 11)) {
            due("hour " + v, x.bride(40, 40, 0, v), BAD);
        }
        due("hour 0", x.bride(40, 40, 4, 0), 0);
        due("hour 11", x.bride(40, 40, 4, 11), 1);
        x.shoe(0, 40, PLAIN);
        for (int v : outside(0, 11)) {
            due("hour becomes " + v, x.make(0, 3, v), BAD);
            due("foot at " + v, x.foot(0, 0, v), BAD);
            due("asked at " + v, x.asked(0, 0, v), BAD);
            due("whose at " + v, x.whose(0, v), BAD);
            due("limps at " + v, x.limps(0, 0, v), -100001);
        }
        due("hour is still 0", x.make(0, 3, 11), 0);
        due("hour is still 11", x.make(1, 3, 0), 11);
        due("foot at 11", x.foot(0, 0, 11), 51);
        due("asked at 11", x.asked(0, 0, 11), NONE);
        due("whose at 11", x.whose(0, 11), 0);
        due("limps at 11", x.limps(0, 0, 11), -11);
    }

    private static void feet() {
        for (int swell = 0; swell <= 4; swell++) {
            BrideShoes x = new BrideShoes();
            x.bride(20, 60, swell, 11);
            for (int hour = 0; hour <= 11; hour++) {
                int more = 0;
                for (int quarters = hour * swell; quarters >= 4; quarters -= 4) {
                    more++;
                }
                due("swell " + swell + " at " + hour, x.foot(0, 0, hour), 20 + more);
                due("swell " + swell + " at " + hour, x.foot(0, 1, hour), 60 + more);
            }
        }
        due("the largest foot", of("60/20s4", "").foot(0, 0, 11), 71);
    }

    private static void shoes() {
        term("SHOES 0 .. 15, as they come,", TermEdgeTests::shoesAsTheyCome);
        term("are of a SIDE (0 left, 1 right),", TermEdgeTests::sides);
        term("have a SIZE (20 .. 70 halves),", TermEdgeTests::sizesOfShoes);
        term("are of a KIND: 0 PLAIN (gives nothing by itself);", TermEdgeTests::plain);
        term("below it 1 GLASS (nor does it; is never let out; LOOSE is 0 for it),", TermEdgeTests::glass);
        term("2 GIVING (gives one half);", TermEdgeTests::giving);
        term("below that 3 PATCHED (gives two; is let out by one at most).", TermEdgeTests::patched);
        term("A SHOE is LOST, or not (at first).", TermEdgeTests::lost);
        term("SETTINGS: 0 LOOSE (0 .. 6 halves; 2 at first),", TermEdgeTests::loose);
        term("1 OUT (0 .. 6 halves that a shoe may be let out by; 3).", TermEdgeTests::out);
        term("A SHOE GOES on the foot of its SIDE of a BRIDE at an HOUR,", TermEdgeTests::goesByItsSide);
        term("let out by k halves (0 .. OUT; as its KIND lets):", TermEdgeTests::letOut);
        term("if its SIZE and k are not below that foot less what it gives,", TermEdgeTests::notBelow);
        term("and not above that foot by more than LOOSE.", TermEdgeTests::notAbove);
        term("ASKED: the least such k, or it does not go", TermEdgeTests::askedLeast);
        term("(of a LOST one, too, as if it was not).", TermEdgeTests::askedOfLost);
    }

    private static void shoesAsTheyCome() {
        BrideShoes x = new BrideShoes();
        for (int s = 0; s < 16; s++) {
            due("shoe " + s + " is none yet", x.told(s, 1), BAD);
            due("shoe " + s, x.shoe(s & 1, 30 + s, s & 3), s);
            due("it is there", x.told(s, 1), 30 + s);
        }
        for (int s : outside(0, 15)) {
            due("shoe " + s, x.told(s, 1), BAD);
        }
        due("the first is still it", x.told(0, 1), 30);
        due("the last", x.told(15, 1), 45);
    }

    private static void sides() {
        BrideShoes x = of("40/50", "");
        for (int side : outside(0, 1)) {
            due("shoe of side " + side, x.shoe(side, 40, 0), BAD);
            due("foot of side " + side, x.foot(0, side, 0), BAD);
            due("shod of side " + side, x.shod(side, -1), BAD);
            due("most of side " + side, x.most(side), BAD);
            due("tries of side " + side, x.tries(side, 40, 40, 0), BAD);
            due("changed of side " + side, x.changed(side, 0, 0, 0, 1, 0), BAD);
        }
        due("left", x.shoe(0, 40, 0), 0);
        due("right", x.shoe(1, 50, 0), 1);
        due("left on the left foot", x.asked(0, 0, 0), 0);
        due("right on the right foot", x.asked(1, 0, 0), 0);
        due("left", x.told(0, 0), 0);
        due("right", x.told(1, 0), 1);
        due("the left foot", x.foot(0, 0, 0), 40);
        due("the right foot", x.foot(0, 1, 0), 50);
    }

    private static void sizesOfShoes() {
        BrideShoes x = new BrideShoes();
        for (int size : outside(20, 70)) {
            due("size " + size, x.shoe(0, size, 0), BAD);
        }
        due("no shoes", x.count(1), 0);
        due("size 20", x.shoe(0, 20, 0), 0);
        due("size 70", x.shoe(0, 70, 0), 1);
        due("size", x.told(0, 1), 20);
        due("size", x.told(1, 1), 70);
        due("above all feet, but as it swelled", of("60/20s4", "l70").asked(0, 0, 11), 1);
    }

    /** By how much a shoe of a kind is let out for a foot of 40, by sizes from 40 less below on. */
    private static void askedDue(int kind, int loose, int out, int below, int... want) {
        BrideShoes x = of("40/30", "");
        x.set(LOOSE, loose);
        x.set(OUT, out);
        for (int i = 0; i < want.length; i++) {
            due("shoe", x.shoe(0, 40 - below + i, kind), i);
            due("kind " + kind + ", size " + (40 - below + i), x.asked(i, 0, 0), want[i]);
        }
    }

    private static void plain() {
        BrideShoes x = new BrideShoes();
        for (int kind : outside(0, 3)) {
            due("kind " + kind, x.shoe(0, 40, kind), BAD);
        }
        askedDue(PLAIN, 2, 3, 4, NONE, 3, 2, 1, 0, 0, 0, NONE);
        askedDue(PLAIN, 2, 0, 2, NONE, NONE, 0, 0, 0, NONE);
        due("limps by one at once", of("40/40", "l39").limps(0, 0, 0), -1);
    }

    private static void glass() {
        askedDue(GLASS, 2, 3, 3, NONE, NONE, NONE, 0, NONE, NONE, NONE);
        askedDue(GLASS, 6, 6, 6, NONE, NONE, NONE, NONE, NONE, NONE, 0, NONE, NONE, NONE, NONE, NONE, NONE);
        BrideShoes x = of("40/40", "l39g,l40g,l41g");
        due("it gives nothing", x.limps(0, 0, 0), -1);
        due("as large", x.limps(0, 1, 0), 0);
        due("LOOSE is 0 for it", x.limps(0, 2, 0), 1);
    }

    private static void giving() {
        askedDue(GIVING, 2, 3, 5, NONE, 3, 2, 1, 0, 0, 0, 0, NONE);
        askedDue(GIVING, 2, 0, 2, NONE, 0, 0, 0, 0, NONE);
        askedDue(GIVING, 0, 6, 8, NONE, 6, 5, 4, 3, 2, 1, 0, 0, NONE);
        BrideShoes x = of("40/40", "l38v,l39v,l42v,l43v");
        due("beyond what it gives", x.limps(0, 0, 0), -1);
        due("it gives one", x.limps(0, 1, 0), 0);
        due("loose", x.limps(0, 2, 0), 0);
        due("too loose", x.limps(0, 3, 0), 1);
    }

    private static void patched() {
        askedDue(PATCHED, 2, 3, 4, NONE, 1, 0, 0, 0, 0, 0, NONE);
        askedDue(PATCHED, 2, 1, 4, NONE, 1, 0, 0, 0, 0, 0, NONE);
        askedDue(PATCHED, 2, 0, 4, NONE, NONE, 0, 0, 0, 0, 0, NONE);
        askedDue(PATCHED, 0, 6, 4, NONE, 1, 0, 0, 0, NONE);
        BrideShoes x = of("40/40", "l37p,l38p,l42p,l43p");
        due("beyond what it gives", x.limps(0, 0, 0), -1);
        due("it gives two", x.limps(0, 1, 0), 0);
        due("loose", x.limps(0, 2, 0), 0);
        due("too loose", x.limps(0, 3, 0), 1);
    }

    private static void lost() {
        BrideShoes x = new BrideShoes();
        for (int s = 0; s < 16; s++) {
            x.shoe(0, 40, s & 3);
            due("not at first", x.told(s, 3), 0);
        }
        x.lose(15, true);
        due("it is", x.told(15, 3), 1);
        due("the one ahead is not", x.told(14, 3), 0);
        typed(x, "r40,l40");
        due("a heap", x.heap(), 2);
        due("not at first", x.told(0, 3), 0);
        for (int s = 2; s < 16; s++) {
            x.shoe(1, 40, 0);
            due("where one was lost the next is not", x.told(s, 3), 0);
        }
    }

    private static void loose() {
        BrideShoes x = of("40/40", "l42,l43,l46,l47");
        for (int v : outside(0, 6)) {
            due("LOOSE " + v, x.set(0, v), BAD);
        }
        due("2 at first", x.asked(0, 0, 0), 0);
        due("not 3", x.asked(1, 0, 0), NONE);
        due("it was 2", x.set(0, 6), 2);
        due("6", x.asked(2, 0, 0), 0);
        due("not 7", x.asked(3, 0, 0), NONE);
        due("it was 6", x.set(0, 0), 6);
        due("not 2", x.asked(0, 0, 0), NONE);
        due("it was 0", x.set(0, 2), 0);
    }

    private static void out() {
        BrideShoes x = of("40/40", "l37,l36,l34,l33,l40");
        for (int v : outside(0, 6)) {
            due("OUT " + v, x.set(1, v), BAD);
        }
        due("3 at first", x.asked(0, 0, 0), 3);
        due("not 4", x.asked(1, 0, 0), NONE);
        due("it was 3", x.set(1, 6), 3);
        due("6", x.asked(2, 0, 0), 6);
        due("not 7", x.asked(3, 0, 0), NONE);
        due("it was 6", x.set(1, 0), 6);
        due("not 3", x.asked(0, 0, 0), NONE);
        due("by nothing", x.asked(4, 0, 0), 0);
        due("it was 0", x.set(1, 3), 0);
        for (int what : outside(0, 1)) {
            due("SETTING " + what, x.set(what, 1), BAD);
        }
    }

    private static void goesByItsSide() {
        BrideShoes x = of("40/50s4h8,50/40", "l40,r40,l51,r51");
        due("left on 0", x.asked(0, 0, 0), 0);
        due("right on 0", x.asked(1, 0, 0), NONE);
        due("left on 1", x.asked(0, 1, 0), NONE);
        due("right on 1", x.asked(1, 1, 0), 0);
        due("at that hour, not at hers", x.asked(2, 0, 11), 0);
        due("at that hour, not at hers", x.asked(2, 0, 8), NONE);
        due("at that hour", x.asked(3, 0, 1), 0);
        due("at the last", x.asked(3, 0, 11), NONE);
        due("whose at 0", x.whose(0, 0), 1);
        due("whose at 0", x.whose(1, 0), 2);
    }

    private static void letOut() {
        for (int kind = 0; kind < 4; kind++) {
            int gives = new int[] {0, 0, 1, 2}[kind];
            for (int out = 0; out <= 6; out++) {
                int most = kind == GLASS ? 0 : kind == PATCHED ? Math.min(1, out) : out;
                BrideShoes x = of("60/40", "");
                x.set(OUT, out);
                x.shoe(0, 60 - gives - most, kind);
                x.shoe(0, 60 - gives - most - 1, kind);
                due("kind " + kind + ", OUT " + out + ": as far as it is let out", x.asked(0, 0, 0), most);
                due("kind " + kind + ", OUT " + out + ": one more", x.asked(1, 0, 0), NONE);
            }
        }
    }

    /** A shoe of each kind and size on a foot of 40, against all ways to let it out. */
    private static void goesDue(int loose, int out) {
        for (int kind = 0; kind < 4; kind++) {
            for (int size = 28; size <= 50; size++) {
                BrideShoes x = of("40/40", "");
                x.set(LOOSE, loose);
                x.set(OUT, out);
                x.shoe(1, size, kind);
                due("LOOSE " + loose + ", OUT " + out + ", kind " + kind + ", size " + size, x.asked(0, 0, 0),
                    leastOut(size, kind, loose, out));
            }
        }
    }

    private static int leastOut(int size, int kind, int loose, int out) {
        for (int k = 0; k <= out; k++) {
            boolean lets = kind == GLASS ? k == 0 : kind != PATCHED || k <= 1;
            boolean below = size + k < 40 - (kind == GIVING ? 1 : kind == PATCHED ? 2 : 0);
            boolean above = size + k > 40 + (kind == GLASS ? 0 : loose);
            if (lets && !below && !above) {
                return k;
            }
        }
        return NONE;
    }

    private static void notBelow() {
        askedDue(PLAIN, 6, 0, 1, NONE, 0);
        askedDue(GIVING, 6, 0, 2, NONE, 0);
        askedDue(PATCHED, 6, 0, 3, NONE, 0);
        askedDue(GLASS, 6, 0, 1, NONE, 0);
        for (int out = 0; out <= 6; out++) {
            goesDue(2, out);
        }
    }

    private static void notAbove() {
        askedDue(PLAIN, 3, 6, -3, 0, NONE);
        askedDue(GIVING, 3, 6, -3, 0, NONE);
        askedDue(PATCHED, 3, 6, -3, 0, NONE);
        askedDue(GLASS, 3, 6, 0, 0, NONE);
        for (int loose = 0; loose <= 6; loose++) {
            goesDue(loose, 3);
        }
    }

    private static void askedLeast() {
        // A foot of 40 and LOOSE 6: 38 goes let out by 2, by 3 .., 42 by 0, by 1 ..
        askedDue(PLAIN, 6, 6, 2, 2, 1, 0, 0, 0, 0, 0, 0, 0, NONE);
        due("it does not go: too small", of("40/40", "l36").asked(0, 0, 0), NONE);
        due("it does not go: too large", of("40/40", "l43").asked(0, 0, 0), NONE);
    }

    private static void askedOfLost() {
        BrideShoes x = of("40/40", "l38,l30,l40");
        for (int s = 0; s < 3; s++) {
            x.lose(s, true);
        }
        due("lost, let out", x.asked(0, 0, 0), 2);
        due("lost, does not go", x.asked(1, 0, 0), NONE);
        due("lost, as it is", x.asked(2, 0, 0), 0);
    }

    // ---- 2 shoes for all

    private static void shoesForAll() {
        term("SHOD by a SIDE is a way to put SHOES of that SIDE", TermEdgeTests::shodOfSide);
        term("that are not LOST", TermEdgeTests::shodNotLost);
        term("on that foot of BRIDES, at the HOUR at which each is wed,", TermEdgeTests::shodAtHerHour);
        term("each SHOE on one, each BRIDE one at most.", TermEdgeTests::shodEachOne);
        term("FOR ALL: that way by which all have one and what is ASKED together is least,", TermEdgeTests::leastTogether);
        term("of like ones the first as a row of SHOES.", TermEdgeTests::firstRow);
        term("MOST: how many can have one at most (whatever is ASKED).", TermEdgeTests::mostAtMost);
        term("CHAIN: one of the SHOES that is on a foot by FOR ALL is LOST besides:", TermEdgeTests::chainBesides);
        term("of all ways in which all have one without it (whatever is ASKED) the fewest BRIDES who have another SHOE than by"
            + " FOR ALL.", TermEdgeTests::chainFewest);
        term("LIMPS of a BRIDE with a SHOE on the foot of its SIDE at an HOUR (not let out):", TermEdgeTests::limpsAt);
        term("by how much its SIZE is above that foot and LOOSE together (above 0);", TermEdgeTests::limpsAbove);
        term("by how much it is below that foot less what it gives (told below 0);", TermEdgeTests::limpsBelow);
        term("else 0.", TermEdgeTests::limpsNot);
        term("CHANGED: SHOES of the first n BRIDES as by FOR ALL (of a SIDE) were mixed among these:",
            TermEdgeTests::changedAmongFirst);
        term("told how each LIMPED at her HOUR:", TermEdgeTests::changedAtHerHour);
        term("rows of BRIDES (whose SHOE each had) by which it is so: how many, the first.", TermEdgeTests::changedRows);
    }

    private static void shodOfSide() {
        BrideShoes x = of("40/40,40/40", "r40,l40,r40,l40");
        due("left", x.shod(0, 0), 1);
        due("left", x.shod(0, 1), 3);
        due("right", x.shod(1, 0), 0);
        due("right", x.shod(1, 1), 2);
        BrideShoes y = of("40/40", "r40");
        due("a right one is not for a left foot", y.shod(0, -1), NONE);
        due("it is for the right one", y.shod(1, -1), 0);
        due("none can have a left one", y.most(0), 0);
        due("one a right one", y.most(1), 1);
    }

    private static void shodNotLost() {
        BrideShoes x = of("40/40", "l40,l40");
        x.lose(0, true);
        due("the other", x.shod(0, 0), 1);
        due("most", x.most(0), 1);
        x.lose(1, true);
        due("all are lost", x.shod(0, 0), NONE);
        due("most", x.most(0), 0);
        x.lose(0, false);
        due("found", x.shod(0, 0), 0);
    }

    private static void shodAtHerHour() {
        BrideShoes x = of("40/40s4h0,40/40s4h11", "l51,l40");
        due("at 11", x.shod(0, 1), 0);
        due("at 0", x.shod(0, 0), 1);
        due("together", x.shod(0, -1), 0);
        x.make(1, 3, 0);
        due("both at 0", x.shod(0, -1), NONE);
        due("both at 0", x.most(0), 1);
    }

    private static void shodEachOne() {
        BrideShoes x = of("40/40,40/40", "l40");
        due("one shoe is for one", x.shod(0, -1), NONE);
        due("one shoe is for one", x.most(0), 1);
        BrideShoes y = of("40/40", "l40,l40,l40");
        due("one bride has one", y.most(0), 1);
        due("one bride has one", y.shod(0, 0), 0);
        BrideShoes z = of("40/40,40/40,40/40,40/40,40/40,40/40,40/40", "l40,l40,l40,l40,l40,l40");
        due("six for seven", z.shod(0, -1), NONE);
        due("six for seven", z.most(0), 6);
        z.shoe(0, 40, 0);
        due("seven for seven", z.most(0), 7);
        due("the last has the last", z.shod(0, 6), 6);
    }

    private static void leastTogether() {
        due("nobody: nothing is asked", new BrideShoes().shod(0, -1), 0);
        BrideShoes x = of("38/30,42/30", "l40,l39");
        due("together, not the first row", x.shod(0, -1), 2);
        due("0 has the second", x.shod(0, 0), 1);
        due("1 has the first", x.shod(0, 1), 0);
        BrideShoes y = of("40/40,40/40,40/40,40/40,40/40,40/40,40/40", "l34,l34,l34,l34,l34,l34,l34");
        due("3 is too little", y.shod(0, -1), NONE);
        y.set(OUT, 6);
        due("the most that can be asked", y.shod(0, -1), 42);
        BrideShoes z = of("40/40,43/43", "l40,l37");
        due("0 takes the worse, as else 1 has none", z.shod(0, -1), 6);
        due("0", z.shod(0, 0), 1);
        due("1", z.shod(0, 1), 0);
    }

    private static void firstRow() {
        BrideShoes x = of("40/40,40/40,40/40", "l39,l40,l39,l40,l40,l40");
        due("0", x.shod(0, 0), 1);
        due("1", x.shod(0, 1), 3);
        due("2", x.shod(0, 2), 4);
        BrideShoes y = of("40/40,42/42", "l42,l42,l40");
        due("the first bride first", y.shod(0, 0), 0);
        due("then the next", y.shod(0, 1), 1);
        y.set(LOOSE, 0);
        due("the least in any case", y.shod(0, 0), 2);
        due("then the next", y.shod(0, 1), 0);
        BrideShoes z = of("40/40,40/40,40/40,40/40,40/40,40/40,40/40",
            "l40,l40,l40,l40,l40,l40,l40,l40,l40,l40,l40,l40,l40,l40,l40,l40");
        for (int s = 0; s < 9; s++) {
            z.lose(s, true);
        }
        for (int b = 0; b < 7; b++) {
            due("the last of sixteen", z.shod(0, b), 9 + b);
        }
    }

    private static void mostAtMost() {
        due("nobody", of("", "l40").most(0), 0);
        due("no shoes", of("40/40", "").most(0), 0);
        BrideShoes x = of("40/40,42/42,44/44", "l42,l42,l20");
        due("two of three", x.most(0), 2);
        due("both, though 0 could have the one that 1 must have", of("42/42,40/40", "l42,l44").most(0), 2);
        due("the other way about", of("44/44,42/42", "l44,l46,l48").most(0), 2);
        BrideShoes y = of("40/40,42/42", "l42,l39");
        due("both, whatever is asked", y.most(0), 2);
        y.set(OUT, 0);
        due("one alone", y.most(0), 1);
    }

    private static void chainBesides() {
        BrideShoes x = of("40/40,46/46", "l40,l41,l42,l46,l46,r40,r46");
        due("the next takes its place", x.chain(0), 1);
        due("nothing is lost by it", x.told(0, 3), 0);
        due("nor changed", x.shod(0, 0), 0);
        x.lose(1, true);
        x.lose(2, true);
        due("besides: those lost are no way", x.chain(0), NONE);
        due("another one", x.chain(3), 1);
        due("of the other side", x.chain(5), NONE);
        due("on no foot", x.chain(4), NOT);
    }

    private static void chainFewest() {
        BrideShoes x = of("40/40,42/42,44/44,46/46,48/48,50/50,52/52", "l40,l42,l44,l46,l48,l50,l52,l54");
        for (int s = 0; s < 7; s++) {
            due("all behind it must change", x.chain(s), 7 - s);
        }
        BrideShoes all = of("40/40,40/40,40/40,40/40,40/40,40/40,40/40",
            "l40,l40,l40,l40,l40,l40,l40,l30,l30,l30,l30,l30,l30,l30,l30,l40");
        due("seven of sixteen, the last takes its place", all.chain(6), 1);
        due("seven of sixteen, the last is on no foot", all.chain(15), NOT);
        // What is asked would rather have both change: 0 takes 41, 1 takes 43.
        BrideShoes y = of("41/41,43/43", "l41,l43,l45,l38");
        due("one, though it asks 3", y.chain(0), 1);
        BrideShoes z = of("40/40", "l40,l39");
        due("one is the fewest", z.chain(0), 1);
        z.set(OUT, 0);
        due("no way", z.chain(0), NONE);
    }

    private static void limpsAt() {
        BrideShoes x = of("40/50s4h8", "l45,r45,l39,l30");
        due("left", x.limps(0, 0, 0), 3);
        due("right", x.limps(0, 1, 0), -5);
        due("at that hour, not at hers", x.limps(0, 0, 11), -6);
        for (int out = 0; out <= 6; out++) {
            x.set(OUT, out);
            due("not let out, though it could be by " + out, x.limps(0, 2, 0), -1);
            due("not let out by " + out, x.limps(0, 3, 0), -10);
        }
    }

    private static void limpsAbove() {
        BrideShoes x = of("40/20", "l42,l43,l70,r70,l40g,l41g");
        due("as LOOSE lets", x.limps(0, 0, 0), 0);
        due("one more", x.limps(0, 1, 0), 1);
        due("far more", x.limps(0, 2, 0), 28);
        due("as far as can be", x.limps(0, 3, 0), 48);
        due("GLASS", x.limps(0, 4, 0), 0);
        due("GLASS: LOOSE is 0", x.limps(0, 5, 0), 1);
        x.set(LOOSE, 6);
        due("as LOOSE lets", x.limps(0, 2, 0), 24);
        due("GLASS all the same", x.limps(0, 5, 0), 1);
        x.set(LOOSE, 0);
        due("without", x.limps(0, 0, 0), 2);
        due("as far as can be", x.limps(0, 3, 0), 50);
    }

    private static void limpsBelow() {
        BrideShoes x = of("40/60s4", "l40,l39,l39g,l39v,l38v,l38p,l37p,r20,r20p");
        int[] want = {0, -1, -1, 0, -1, 0, -1, -40, -38};
        for (int s = 0; s < want.length; s++) {
            due("shoe " + s, x.limps(0, s, 0), want[s]);
        }
        due("as far as can be", x.limps(0, 7, 11), -51);
        due("less what it gives", x.limps(0, 8, 11), -49);
    }

    private static void limpsNot() {
        int[] gives = {0, 0, 1, 2};
        for (int kind = 0; kind < 4; kind++) {
            BrideShoes x = of("40/40", "");
            x.set(LOOSE, 3);
            int most = kind == GLASS ? 40 : 43;
            for (int size = 40 - gives[kind]; size <= most; size++) {
                int s = x.shoe(1, size, kind);
                due("kind " + kind + ", size " + size, x.limps(0, s, 0), 0);
            }
            due("kind " + kind + ", above", x.limps(0, x.shoe(1, most + 1, kind), 0), 1);
            due("kind " + kind + ", below", x.limps(0, x.shoe(1, 39 - gives[kind], kind), 0), -1);
        }
    }

    private static void changedAmongFirst() {
        BrideShoes x = of("40/40,44/44,48/48", "r40,r44,r48,l48,l44,l40");
        filled(x, 0, BYTES, 2, -4, 0);
        due("the first two", x.changed(0, 0, BYTES, 0, 2, 0), 1);
        due("the first two", x.changed(0, 0, BYTES, 0, 2, 1), 0);
        due("of the right", x.changed(1, 0, BYTES, 0, 3, 2), 2);
        filled(x, 0, BYTES, 6, -4, -4);
        due("bride 2's shoe is not among those of two", x.changed(0, 0, BYTES, 0, 2, -1), NONE);
        due("it is among those of three", x.changed(0, 0, BYTES, 0, 3, 0), 2);
        filled(x, 0, BYTES, 0);
        due("one alone has her own", x.changed(0, 0, BYTES, 0, 1, 0), 0);
        BrideShoes y = of("40/40,40/40,40/40,40/40,40/40,40/40,40/40", "l40,l40,l40,l40,l40,l40,l40");
        filled(y, 0, BYTES, 0, 0, 0, 0, 0, 0, 0);
        due("six among six", y.changed(0, 0, BYTES, 0, 6, 5), 5);
        due("seven are too many", y.changed(0, 0, BYTES, 0, 7, 5), BAD);
        due("none are too few", y.changed(0, 0, BYTES, 0, 0, -1), BAD);
    }

    private static void changedAtHerHour() {
        BrideShoes x = of("40/40,40/40s4h11", "l40,l51");
        filled(x, 0, BYTES, 9, -11);
        due("mixed", x.changed(0, 0, BYTES, 0, 2, 0), 1);
        due("not at another hour", x.changed(0, 0, BYTES, 0, 2, -1), 1);
        filled(x, 0, BYTES, 9, 0);
        due("no such row", x.changed(0, 0, BYTES, 0, 2, -1), NONE);
        // What is let out for the wedding does not count for how one limps.
        BrideShoes y = of("40/40", "l37");
        filled(y, 0, BYTES, -3, 0);
        due("as by LIMPS", y.changed(0, 0, BYTES, 0, 1, -1), 1);
        due("not as let out", y.changed(0, 0, BYTES, 1, 1, -1), NONE);
    }

    private static void changedRows() {
        BrideShoes x = of("40/40,40/40,40/40,44/44,44/44,44/44", "l40,l40,l40,l44,l44,l44");
        filled(x, 0, BYTES, 0, 0, 2, -4, 0, 0);
        due("rows", x.changed(0, 0, BYTES, 0, 6, -1), 3 * 2 * 3 * 1 * 2 * 1);
        int[] first = {0, 1, 3, 2, 4, 5};
        for (int k = 0; k < 6; k++) {
            due("the first, bride " + k, x.changed(0, 0, BYTES, 0, 6, k), first[k]);
        }
        filled(x, 0, BYTES, 0, 0, 0, 0, 0, 0);
        due("each her own or like", x.changed(0, 0, BYTES, 0, 6, -1), 36);
        // The row that a greedy choice begins has no end: 0 must have 1's, not her own.
        BrideShoes y = of("40/40,41/41,46/46", "l40,l41,l46");
        filled(y, 0, BYTES, 0, -1, 0);
        due("one row", y.changed(0, 0, BYTES, 0, 3, -1), 1);
        due("1's", y.changed(0, 0, BYTES, 0, 3, 0), 1);
        due("0's", y.changed(0, 0, BYTES, 0, 3, 1), 0);
        due("her own", y.changed(0, 0, BYTES, 0, 3, 2), 2);
        // 0 may have had 1's or 2's, 1 just her own, 2 just 0's.
        BrideShoes z = of("40/40,42/42,41/41", "l37,l42,l41");
        filled(z, 0, BYTES, 0, 0, -4);
        due("one row", z.changed(0, 0, BYTES, 0, 3, -1), 1);
        due("2's", z.changed(0, 0, BYTES, 0, 3, 0), 2);
        due("her own", z.changed(0, 0, BYTES, 0, 3, 1), 1);
        due("0's", z.changed(0, 0, BYTES, 0, 3, 2), 0);
    }

    // ---- 3 tries, ranks

    private static void triesAndRanks() {
        term("TRIES: a foot is of a SIZE from a to b (20 .. 60);", TermEdgeTests::triesFromTo);
        term("a SHOE of a SIDE that is not LOST, tried,", TermEdgeTests::triesOfSide);
        term("tells whether the foot is larger than its SIZE, as large, or less (whatever its KIND).", TermEdgeTests::triesTell);
        term("The fewest tries behind which the SIZE is known at worst;", TermEdgeTests::triesFewest);
        term("none, if not all can be told apart.", TermEdgeTests::triesNone);
        term("FIRST: the least SIZE by which one may begin so.", TermEdgeTests::triesFirst);
        term("RANKS: of n BRIDES (2 .. 7) by n GROOMS, and the other way about,", TermEdgeTests::ranksOfSeven);
        term("each a row of these, the best liked first.", TermEdgeTests::ranksBestFirst);
        term("FIRM are pairs for all, if no BRIDE and GROOM who are no pair like one another more than those they have.",
            TermEdgeTests::firmPairs);
        term("BRIDES' BEST: of all FIRM ways that by which each BRIDE has the best liked she can have.",
            TermEdgeTests::bridesBest);
    }

    private static void triesFromTo() {
        BrideShoes x = of("", "l20,l21,l59,l60");
        for (int v : outside(20, 60)) {
            due("from " + v, x.tries(0, v, 60, 0), BAD);
            due("to " + v, x.tries(0, 20, v, 0), BAD);
            due("from and to " + v, x.tries(0, v, v, 0), BAD);
        }
        due("20 alone", x.tries(0, 20, 20, 0), 0);
        due("60 alone", x.tries(0, 60, 60, 0), 0);
        due("the least", x.tries(0, 20, 22, 0), 1);
        due("the most", x.tries(0, 58, 60, 0), 1);
        due("the most, first", x.tries(0, 58, 60, 1), 59);
        due("the most, first of two", x.tries(0, 59, 60, 1), 59);
        due("all", x.tries(0, 20, 60, 0), NONE);
    }

    private static void triesOfSide() {
        BrideShoes x = of("", "l40,r42");
        due("left", x.tries(0, 40, 41, 0), 1);
        due("right", x.tries(1, 40, 41, 0), NONE);
        due("right", x.tries(1, 42, 43, 0), 1);
        x.lose(0, true);
        due("lost", x.tries(0, 40, 41, 0), NONE);
        x.lose(0, false);
        due("found", x.tries(0, 40, 41, 0), 1);
        due("both sides together are none", x.tries(0, 39, 43, 0), NONE);
        due("no shoe of 20", x.tries(0, 20, 21, 0), NONE);
        due("no shoe of 60", x.tries(0, 59, 60, 0), NONE);
    }

    private static void triesTell() {
        for (String kind : new String[] {"", "g", "v", "p"}) {
            BrideShoes x = of("", "l40" + kind);
            due("less, as large, larger", x.tries(0, 39, 41, 0), 1);
            due("less and less", x.tries(0, 38, 41, 0), NONE);
            due("larger and larger", x.tries(0, 39, 42, 0), NONE);
            due("by its size", x.tries(0, 39, 41, 1), 40);
        }
        BrideShoes y = of("", "l42p,l38v");
        y.set(LOOSE, 6);
        due("whatever is LOOSE", y.tries(0, 37, 39, 0), 1);
        due("whatever it gives", y.tries(0, 41, 43, 0), 1);
    }

    private static void triesFewest() {
        due("none at all", new BrideShoes().tries(0, 40, 40, 0), 0);
        BrideShoes x = of("", "l21,l23,l25,l27,l29,l31,l33,l35,l37,l39,l41,l43,l45,l47,l49,l51");
        due("3 sizes", x.tries(0, 20, 22, 0), 1);
        due("4 sizes", x.tries(0, 20, 23, 0), 2);
        due("7 sizes", x.tries(0, 20, 26, 0), 2);
        due("8 sizes", x.tries(0, 20, 27, 0), 3);
        due("15 sizes", x.tries(0, 20, 34, 0), 3);
        due("16 sizes", x.tries(0, 20, 35, 0), 4);
        due("31 sizes", x.tries(0, 20, 50, 0), 4);
        due("32 sizes", x.tries(0, 20, 51, 0), 5);
        due("33 sizes, all that can be", x.tries(0, 20, 52, 0), 5);
        due("34 sizes", x.tries(0, 20, 53, 0), NONE);
        BrideShoes y = of("", "l40,l41,l42,l43,l44,l45,l46,l47,l48,l49,l50,l51,l52,l53,l54,l55");
        due("each size: 3", y.tries(0, 41, 43, 0), 1);
        due("each size: 15", y.tries(0, 40, 54, 0), 3);
        due("each size: 16", y.tries(0, 40, 55, 0), 4);
        due("each size: 17", y.tries(0, 39, 55, 0), 4);
        BrideShoes z = of("", "l41,l43,l43,l70,l61");
        due("like ones and those above all are no help", z.tries(0, 40, 44, 0), 2);
    }

    private static void triesNone() {
        due("no shoes, two sizes", new BrideShoes().tries(0, 40, 41, 0), NONE);
        due("no shoes, two sizes, first", new BrideShoes().tries(0, 40, 41, 1), NONE);
        BrideShoes x = of("", "l40,l42,l44");
        due("all", x.tries(0, 39, 45, 0), 2);
        due("one below", x.tries(0, 38, 45, 0), NONE);
        due("one above", x.tries(0, 39, 46, 0), NONE);
        due("one below, first", x.tries(0, 38, 45, 1), NONE);
        x.lose(1, true);
        due("41, 42, 43 are alike", x.tries(0, 39, 45, 0), NONE);
        due("41 alone", x.tries(0, 39, 41, 0), 1);
    }

    private static void triesFirst() {
        BrideShoes x = of("", "l44,l42,l41,l40,l43");
        due("40 or 41", x.tries(0, 40, 41, 1), 40);
        due("41 alone", x.tries(0, 40, 42, 1), 41);
        due("41, 42 or 43", x.tries(0, 40, 44, 1), 41);
        due("40, as one try tells 41, 42, 43 apart", x.tries(0, 40, 43, 1), 40);
        due("42 alone", x.tries(0, 39, 45, 1), 42);
        due("one size", x.tries(0, 40, 40, 1), NONE);
    }

    /** Ranks of n brides and n grooms, each by the same row, which begins with its first and goes on by a step. */
    private static int[] alikeRanks(int n, int firstGroom, int step, int firstBride, int stepOfGrooms) {
        int[] items = new int[2 * n * n];
        for (int row = 0; row < 2 * n; row++) {
            for (int i = 0; i < n; i++) {
                int first = row < n ? firstGroom : firstBride;
                items[row * n + i] = Math.floorMod(first + i * (row < n ? step : stepOfGrooms), n);
            }
        }
        return items;
    }

    private static void ranksOfSeven() {
        for (int n = 2; n <= 7; n++) {
            BrideShoes x = new BrideShoes();
            filled(x, 0, BYTES, alikeRanks(n, 0, 1, 0, 1));
            filled(x, 1, BYTES, alikeRanks(n, 0, 1, n - 1, -1));
            filled(x, 2, BYTES, 6, 5, 4, 3, 2, 1, 0);
            for (int b = 0; b < n; b++) {
                due("grooms like bride 0 best, bride " + b, x.firm(0, BYTES, 0, n, b), b);
                due("grooms like the last best, bride " + b, x.firm(1, BYTES, 0, n, b), n - 1 - b);
            }
            due("judged", x.judged(1, BYTES, 0, n, 2), n == 7 ? NONE : NOT);
        }
        BrideShoes x = new BrideShoes();
        x.sheet(0, BYTES, 100);
        for (int n : outside(2, 7)) {
            due("firm of " + n, x.firm(0, BYTES, 0, n, 0), BAD);
            due("judged of " + n, x.judged(0, BYTES, 0, n, 0), BAD);
        }
    }

    private static void ranksBestFirst() {
        BrideShoes x = new BrideShoes();
        filled(x, 0, BYTES, 2, 0, 1, 0, 1, 2, 1, 2, 0, 0, 1, 2, 0, 1, 2, 0, 1, 2);
        due("0 has the first of her row", x.firm(0, BYTES, 0, 3, 0), 2);
        due("1 has the first of her row", x.firm(0, BYTES, 0, 3, 1), 0);
        due("2 has the first of her row", x.firm(0, BYTES, 0, 3, 2), 1);
        // Both brides like groom 1 best; he likes bride 1 best.
        filled(x, 0, BYTES, 1, 0, 1, 0, 0, 1, 1, 0);
        due("the groom's row counts", x.firm(0, BYTES, 0, 2, 1), 1);
        due("so the other has the other", x.firm(0, BYTES, 0, 2, 0), 0);
    }

    private static void firmPairs() {
        BrideShoes x = new BrideShoes();
        filled(x, 1, BYTES, 0, 1);
        filled(x, 0, BYTES, 1, 0, 0, 1, 0, 1, 0, 1);
        due("0 likes 1 more, and he her", x.judged(0, BYTES, 0, 2, 1), 1);
        filled(x, 0, BYTES, 1, 0, 0, 1, 0, 1, 1, 0);
        due("0 likes 1 more, he not her", x.judged(0, BYTES, 0, 2, 1), NONE);
        filled(x, 0, BYTES, 0, 1, 0, 1, 1, 0, 0, 1);
        due("1 likes 0 more, and he her", x.judged(0, BYTES, 0, 2, 1), 10);
        filled(x, 0, BYTES, 0, 1, 1, 0, 1, 0, 0, 1);
        due("the grooms alone like others more", x.judged(0, BYTES, 0, 2, 1), NONE);
        filled(x, 0, BYTES, 0, 1, 1, 0, 0, 1, 1, 0);
        due("a pair is no reason to leave", x.judged(0, BYTES, 0, 2, 1), NONE);
    }

    private static void bridesBest() {
        BrideShoes x = new BrideShoes();
        filled(x, 0, BYTES, 0, 1, 1, 0, 1, 0, 0, 1);
        due("the brides', not the grooms' best", x.firm(0, BYTES, 0, 2, 0), 0);
        due("the brides', not the grooms' best", x.firm(0, BYTES, 0, 2, 1), 1);
        filled(x, 1, BYTES, 0, 1);
        due("it is firm", x.judged(0, BYTES, 0, 2, 1), NONE);
        filled(x, 1, BYTES, 1, 0);
        due("so is the grooms' best", x.judged(0, BYTES, 0, 2, 1), NONE);
        filled(x, 0, BYTES, 0, 1, 2, 1, 2, 0, 2, 0, 1, 1, 2, 0, 2, 0, 1, 0, 1, 2);
        for (int b = 0; b < 3; b++) {
            due("the best of three firm ways", x.firm(0, BYTES, 0, 3, b), b);
        }
    }

    // ---- texts

    private static void texts() {
        term("BRIDES are a TEXT: 1 to 7 with , between:", TermEdgeTests::oneToSeven);
        term("a number (LEFT), / and a number (RIGHT),", TermEdgeTests::leftAndRight);
        term("perhaps s and a digit 0 .. 4 (SWELL; 0),", TermEdgeTests::perhapsSwell);
        term("perhaps h and a number 0 .. 11 (HOUR; 0):", TermEdgeTests::perhapsHour);
        term("in place of those told.", TermEdgeTests::inPlaceOfBrides);
        term("A HEAP is a TEXT: 1 to 16 with , between:", TermEdgeTests::oneToSixteen);
        term("l or r, a number (SIZE),", TermEdgeTests::sideAndSize);
        term("perhaps g, v or p (GLASS, GIVING, PATCHED; PLAIN):", TermEdgeTests::perhapsKind);
        term("in place of all SHOES (none LOST).", TermEdgeTests::inPlaceOfShoes);
        term("(Numbers are figures, zeros ahead, too.)", TermEdgeTests::figures);
        term("FAULTS: -20 less the place of the first byte", TermEdgeTests::faultOfFirst);
        term("(blanks do not count, but end a number) that can't stand there", TermEdgeTests::blanks);
        term("(the end: how many bytes there are);", TermEdgeTests::faultOfEnd);
        term("of a number that may not be its first byte.", TermEdgeTests::faultOfNumber);
    }

    private static void bridesDue(String text, int want) {
        BrideShoes x = new BrideShoes();
        typed(x, text);
        due("brides '" + text + "'", x.brides(), want);
        due("then there are", x.count(0), Math.max(want, 0));
    }

    private static void heapDue(String text, int want) {
        BrideShoes x = new BrideShoes();
        typed(x, text);
        due("heap '" + text + "'", x.heap(), want);
        due("then there are", x.count(1), Math.max(want, 0));
    }

    private static String times(int n, String item) {
        return item + ("," + item).repeat(n - 1);
    }

    private static void oneToSeven() {
        bridesDue("", -20);
        for (int n = 1; n <= 7; n++) {
            bridesDue(times(n, "40/41"), n);
            bridesDue(times(n, "40/41") + ",", n == 7 ? -61 : -20 - 6 * n);
        }
        bridesDue(times(8, "40/41"), -61);
        bridesDue(",40/41", -20);
        bridesDue("40/41,,40/41", -26);
        bridesDue("40/41 40/41", -26);
        bridesDue("40/41;40/41", -25);
    }

    private static void leftAndRight() {
        BrideShoes x = of("20/60,60/20", "");
        due("left", x.foot(0, 0, 0), 20);
        due("right", x.foot(0, 1, 0), 60);
        due("left of 1", x.foot(1, 0, 0), 60);
        due("right of 1", x.foot(1, 1, 0), 20);
        bridesDue("19/40", -20);
        bridesDue("61/40", -20);
        bridesDue("40/19", -23);
        bridesDue("40/61", -23);
        bridesDue("/40", -20);
        bridesDue("40/", -23);
        bridesDue("40/s1", -23);
        bridesDue("40,40", -22);
        bridesDue("40//40", -23);
        bridesDue("-40/40", -20);
        bridesDue("40/+40", -23);
    }

    private static void perhapsSwell() {
        BrideShoes x = of("40/40,40/40s0,40/40s1,40/40s4", "");
        int[] swell = {0, 0, 1, 4};
        for (int b = 0; b < 4; b++) {
            due("swell of " + b, x.make(b, 2, 0), swell[b]);
        }
        due("0 where one swelled before", swellAgain("40/40s4"), 0);
        due("0 where a shoe was PATCHED before", swellAgain("l40p"), 0);
        bridesDue("40/40s5", -26);
        bridesDue("40/40s9", -26);
        bridesDue("40/40s", -26);
        bridesDue("40/40s,", -26);
        bridesDue("40/40sh1", -26);
        bridesDue("40/40s/", -26);
        bridesDue("40/40s:", -26);
        bridesDue("40/40s-1", -26);
        bridesDue("40/40s1s1", -27);
        bridesDue("40/40s10", -27);
        bridesDue("40/40S1", -25);
    }

    private static int swellAgain(String before) {
        BrideShoes x = new BrideShoes();
        typed(x, before);
        due("before: " + before, before.startsWith("l") ? x.heap() : x.brides(), 1);
        tell(x, "40/40", "");
        return x.make(0, 2, 4);
    }

    private static void perhapsHour() {
        BrideShoes x = of("40/40s4,40/40h0,40/40h11,40/40s1h9", "");
        int[] hour = {0, 0, 11, 9};
        for (int b = 0; b < 4; b++) {
            due("hour of " + b, x.make(b, 3, 0), hour[b]);
        }
        tell(x, "40/40,40/40,40/40,40/40", "");
        due("0 where one was wed at 11 before", x.make(2, 3, 0), 0);
        bridesDue("40/40h12", -26);
        bridesDue("40/40h99", -26);
        bridesDue("40/40h", -26);
        bridesDue("40/40h,", -26);
        bridesDue("40/40h-1", -26);
        bridesDue("40/40h1h1", -27);
        bridesDue("40/40h1s1", -27);
        bridesDue("40/40s1h12", -28);
        bridesDue("40/40H1", -25);
    }

    private static void inPlaceOfBrides() {
        BrideShoes x = of(SEVEN, "l40");
        typed(x, "30/31");
        due("one for seven", x.brides(), 1);
        due("one", x.count(0), 1);
        due("she", x.foot(0, 0, 4), 30);
        due("the second is none", x.foot(1, 0, 0), BAD);
        due("the next", x.bride(50, 50, 0, 0), 1);
        due("shoes stay", x.count(1), 1);
        typed(x, SEVEN);
        due("seven for two", x.brides(), 7);
        due("the last", x.foot(6, 1, 11), 64);
    }

    private static void oneToSixteen() {
        heapDue("", -20);
        for (int n = 1; n <= 16; n++) {
            heapDue(times(n, "l40"), n);
            heapDue(times(n, "l40") + ",", n == 16 ? -83 : -20 - 4 * n);
        }
        heapDue(times(17, "l40"), -83);
        heapDue(",l40", -20);
        heapDue("l40,,l40", -24);
        heapDue("l40 l40", -24);
        heapDue("l40;l40", -23);
    }

    private static void sideAndSize() {
        BrideShoes x = of("", "l20,r70,l70,r20");
        for (int s = 0; s < 4; s++) {
            due("side of " + s, x.told(s, 0), s & 1);
            due("size of " + s, x.told(s, 1), s == 0 || s == 3 ? 20 : 70);
        }
        heapDue("l19", -21);
        heapDue("r71", -21);
        heapDue("l", -21);
        heapDue("lg", -21);
        heapDue("40", -20);
        heapDue("x40", -20);
        heapDue("L40", -20);
        heapDue("R40", -20);
        heapDue("lr40", -21);
        heapDue("l-40", -21);
        heapDue("40l", -20);
    }

    private static void perhapsKind() {
        BrideShoes x = of("", "l40,l40g,l40v,l40p,r40,r40g,r40v,r40p");
        for (int s = 0; s < 8; s++) {
            due("kind of " + s, x.told(s, 2), s & 3);
        }
        tell(x, "40/40s1,40/40s2h9", "l40,l40");
        due("PLAIN where one swelled before", x.told(0, 2), 0);
        due("PLAIN where another kind was before", x.told(1, 2), 0);
        due("not LOST where one was wed at 9", x.told(1, 3), 0);
        heapDue("l40x", -23);
        heapDue("l40G", -23);
        heapDue("l40gv", -24);
        heapDue("l40pp", -24);
        heapDue("l40g0", -24);
        heapDue("lg40", -21);
    }

    private static void inPlaceOfShoes() {
        BrideShoes x = of("40/40", SIXTEEN);
        for (int s = 0; s < 16; s++) {
            x.lose(s, true);
        }
        typed(x, "r50g,l51");
        due("two for sixteen", x.heap(), 2);
        due("two", x.count(1), 2);
        due("none lost", x.count(4), 0);
        due("not lost", x.told(0, 3), 0);
        due("not lost", x.told(1, 3), 0);
        due("the third is none", x.told(2, 0), BAD);
        due("the next", x.shoe(0, 40, 0), 2);
        due("brides stay", x.count(0), 1);
        typed(x, SIXTEEN);
        due("sixteen for three", x.heap(), 16);
        due("none lost", x.count(4), 0);
        due("the last", x.told(15, 1), 64);
    }

    private static void figures() {
        bridesDue("00000000000000000000000000000040/040s4h00000000000000000000000000000011", 1);
        heapDue("l" + "0".repeat(117) + "40", 1);
        heapDue("l" + "0".repeat(117) + "71", -21);
        heapDue("l" + "9".repeat(119), -21);
        // By wrap-around these would be 40: 2^32 + 40, 2^64 + 40, 2^31 + .., 2^16 + 40, 2^8 + 40.
        heapDue("l4294967336", -21);
        heapDue("l18446744073709551656", -21);
        heapDue("l65576", -21);
        heapDue("l296", -21);
        heapDue("l1040", -21);
        bridesDue("4294967336/40", -20);
        bridesDue("40/18446744073709551656", -23);
        bridesDue("40/40h4294967296", -26);
        bridesDue("40/40h18446744073709551616", -26);
        bridesDue("4o/40", -20);
        bridesDue("0x28/40", -20);
        bridesDue("40.0/40", -22);
        heapDue("l:0", -21);
        heapDue("l/0", -21);
    }

    private static void faultOfFirst() {
        bridesDue("x", -20);
        bridesDue("40/41x", -25);
        bridesDue("40/41xyz,19/40", -25);
        bridesDue("40/41,19/x", -26);
        bridesDue("40/41,42x", -28);
        heapDue("x", -20);
        heapDue("l40x71", -23);
        heapDue("l40,x,l71", -24);
        heapDue("l40,l41,l42,l43,l44,l45,l46,l47,l48,l49,l50,l51,l52,l53,l54,x", -80);
        String ahead = " ".repeat(119);
        heapDue(ahead + "x", -139);
        bridesDue(ahead + "4", -139);
    }

    private static void blanks() {
        bridesDue(" 40 / 41 s 4 h 11 , 42 / 43 ", 2);
        bridesDue("  x", -22);
        bridesDue("40  x", -24);
        bridesDue("40/40  x", -27);
        heapDue("  l  40  p  ,  r  41  ", 2);
        heapDue("   40", -23);
        heapDue("l  71", -23);
        bridesDue("4 0/40", -20);
        bridesDue("40 0/40", -23);
        bridesDue("40/4 0", -23);
        bridesDue("40/40 0", -26);
        bridesDue("40/40h1 1", -28);
        bridesDue("40/40h0 1", -28);
        heapDue("l4 0", -21);
        heapDue("l40 0", -24);
        heapDue("l40 g", 1);
        heapDue("l40 g g", -26);
    }

    private static void faultOfEnd() {
        bridesDue("", -20);
        bridesDue("40", -22);
        bridesDue("40/", -23);
        bridesDue("40/40s", -26);
        bridesDue("40/40h", -26);
        bridesDue("40/40,", -26);
        bridesDue("40/40,4", -26);
        bridesDue("40/40,42", -28);
        bridesDue("   ", -23);
        bridesDue("40  ", -24);
        heapDue("", -20);
        heapDue("l", -21);
        heapDue("l40,", -24);
        heapDue("l40,r", -25);
        heapDue("l  ", -23);
        bridesDue(" ".repeat(120), -140);
        heapDue(" ".repeat(119) + "l", -140);
        heapDue("l" + " ".repeat(119), -140);
    }

    private static void faultOfNumber() {
        bridesDue("190/40", -20);
        bridesDue("  61/40", -22);
        bridesDue("40/610", -23);
        bridesDue("40/  19", -25);
        bridesDue("40/40h012", -26);
        bridesDue("40/40h 12", -27);
        bridesDue("40/40,40/0061", -29);
        heapDue("l071", -21);
        heapDue("l 0019", -22);
        heapDue("l40,r400", -25);
        heapDue("l0", -21);
    }

    // ---- 4 sheets

    private static void sheets() {
        term("sheets 0 .. 3:", TermEdgeTests::fourSheets);
        term("nothing (at first), or a row", TermEdgeTests::nothingAtFirst);
        term("of a LANE: 0 bytes, 1 shorts, 2 ints,", TermEdgeTests::lanes);
        term("of 0 to 100 items.", TermEdgeTests::upToAHundred);
    }

    private static void fourSheets() {
        BrideShoes x = of("40/40", "l40");
        for (int s = 0; s < 4; s++) {
            due("sheet " + s, x.sheet(s, BYTES, 8 + s), 8 + s);
        }
        for (int s : outside(0, 3)) {
            due("sheet " + s, x.sheet(s, BYTES, 1), BAD);
            due("drop " + s, x.drop(s), BAD);
            due("item of " + s, x.item(s, BYTES, 0, 0), BAD);
            due("copy from " + s, x.copy(s, 0, 0, 0, 0), BAD);
            due("copy to " + s, x.copy(0, 0, s, 0, 0), BAD);
            due("changed by " + s, x.changed(0, s, BYTES, 0, 1, 0), BAD);
            due("firm by " + s, x.firm(s, BYTES, 0, 2, 0), BAD);
            due("judged by " + s, x.judged(s, BYTES, 0, 2, 0), BAD);
            due("judged, pairs on " + s, x.judged(0, BYTES, 0, 2, s), BAD);
        }
        for (int s = 0; s < 4; s++) {
            due("sheet " + s + " is its own", x.drop(s), 8 + s);
        }
    }

    private static void nothingAtFirst() {
        for (int s = 0; s < 4; s++) {
            BrideShoes x = of("40/40", "l40");
            int other = (s + 1) % 4;
            x.sheet(other, BYTES, 9);
            due("drop", x.drop(s), NULL);
            due("item", x.item(s, BYTES, 0, 0), NULL);
            due("copy from", x.copy(s, 0, other, 0, 0), NULL);
            due("copy to", x.copy(other, 0, s, 0, 0), NULL);
            due("changed", x.changed(0, s, BYTES, 0, 1, 0), NULL);
            due("firm", x.firm(s, BYTES, 0, 2, 0), NULL);
            due("judged", x.judged(s, BYTES, 0, 2, other), NULL);
            due("judged, pairs", x.judged(other, BYTES, 0, 2, s), NULL);
            due("a row", x.sheet(s, BYTES, 0), 0);
            due("an empty one is not nothing", x.drop(s), 0);
        }
    }

    private static void lanes() {
        for (int lane : outside(0, 2)) {
            BrideShoes x = of("40/40", "l40");
            x.sheet(0, BYTES, 9);
            due("sheet of lane " + lane, x.sheet(0, lane, 9), BAD);
            due("item of lane " + lane, x.item(0, lane, 0, 0), BAD);
            due("changed of lane " + lane, x.changed(0, 0, lane, 0, 1, 0), BAD);
            due("firm of lane " + lane, x.firm(0, lane, 0, 2, 0), BAD);
            due("judged of lane " + lane, x.judged(0, lane, 0, 2, 0), BAD);
        }
        for (int lane = 0; lane < 3; lane++) {
            // 2^8, 2^16 are 0 as bytes; 2^16 is 0 as shorts.
            BrideShoes x = of("40/40", "l40");
            filled(x, 0, lane, 256, 65536, 1 << 24);
            due("256 of lane " + lane, x.changed(0, 0, lane, 0, 1, -1), lane == BYTES ? 1 : NONE);
            due("65536 of lane " + lane, x.changed(0, 0, lane, 1, 1, -1), lane == INTS ? NONE : 1);
            due("2^24 of lane " + lane, x.changed(0, 0, lane, 2, 1, -1), lane == INTS ? NONE : 1);
        }
    }

    private static void upToAHundred() {
        for (int lane = 0; lane < 3; lane++) {
            BrideShoes x = new BrideShoes();
            due("0", x.sheet(0, lane, 0), 0);
            due("no item", x.item(0, lane, 0, 1), INDEX);
            due("100", x.sheet(1, lane, 100), 100);
            due("the last item", x.item(1, lane, 99, 1), 1);
            due("none behind", x.item(1, lane, 100, 1), INDEX);
            due("101", x.sheet(2, lane, 101), BAD);
            due("the most", x.sheet(2, lane, Integer.MAX_VALUE), BAD);
            due("-1", x.sheet(2, lane, -1), SIZE);
            due("the least", x.sheet(2, lane, Integer.MIN_VALUE), SIZE);
            due("nothing by that", x.drop(2), NULL);
        }
    }
}
