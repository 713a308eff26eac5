/** For each promise: ordinary inputs, the edges that the document names, wrong inputs. */
public final class PromiseTests extends Checks {
    public static void main(String[] args) {
        newObject();
        bride();
        make();
        shoe();
        told();
        lose();
        set();
        foot();
        asked();
        whose();
        type();
        brides();
        heap();
        count();
        shod();
        most();
        chain();
        limps();
        tries();
        image();
        restore();
        changed();
        firm();
        judged();
        sheet();
        drop();
        item();
        copy();
        end("all promises stand");
    }

    private static void bridesDue(String text, int want) {
        BrideShoes x = of("55/56s4h11", "l30");
        typed(x, text);
        due("brides of '" + text + "'", x.brides(), want);
        if (want < 0) {
            due("one bride stays after '" + text + "'", x.count(0), 1);
            due("her left after '" + text + "'", x.foot(0, 0, 0), 55);
            due("her right after '" + text + "'", x.foot(0, 1, 0), 56);
            due("her swell after '" + text + "'", x.foot(0, 0, 4), 59);
        }
        due("tape is empty after '" + text + "'", x.type('x', 1), 1);
        due("shoes stay after '" + text + "'", x.count(1), 1);
    }

    private static void heapDue(String text, int want) {
        BrideShoes x = of("55/56s4h11", "r33v");
        x.lose(0, true);
        typed(x, text);
        due("heap of '" + text + "'", x.heap(), want);
        if (want < 0) {
            due("one shoe stays after '" + text + "'", x.count(1), 1);
            due("its side after '" + text + "'", x.told(0, 0), 1);
            due("its size after '" + text + "'", x.told(0, 1), 33);
            due("its kind after '" + text + "'", x.told(0, 2), 2);
            due("it is lost after '" + text + "'", x.told(0, 3), 1);
        }
        due("tape is empty after '" + text + "'", x.type('x', 1), 1);
        due("brides stay after '" + text + "'", x.count(0), 1);
    }

    private static void newObject() {
        BrideShoes x = new BrideShoes();
        for (int what = 0; what <= 4; what++) {
            due("new count " + what, x.count(what), 0);
        }
        due("new LOOSE", x.set(0, 0), 2);
        due("new OUT", x.set(1, 0), 3);
        due("new tape", x.type('a', 1), 1);
        due("new image", x.restore(), NONE);
        for (int s = 0; s < 4; s++) {
            due("new sheet " + s, x.drop(s), NULL);
        }
        due("the first bride", x.foot(0, 0, 0), BAD);
        BrideShoes y = new BrideShoes();
        x.bride(40, 40, 0, 0);
        due("another object has its own brides", y.count(0), 0);
    }

    private static void bride() {
        BrideShoes x = new BrideShoes();
        due("left 19", x.bride(19, 40, 0, 0), BAD);
        due("left 61", x.bride(61, 40, 0, 0), BAD);
        due("right 19", x.bride(40, 19, 0, 0), BAD);
        due("right 61", x.bride(40, 61, 0, 0), BAD);
        due("swell -1", x.bride(40, 40, -1, 0), BAD);
        due("swell 5", x.bride(40, 40, 5, 0), BAD);
        due("hour -1", x.bride(40, 40, 0, -1), BAD);
        due("hour 12", x.bride(40, 40, 0, 12), BAD);
        due("refused ones are none", x.count(0), 0);
        due("least", x.bride(20, 20, 0, 0), 0);
        due("most", x.bride(60, 60, 4, 11), 1);
        for (int b = 2; b < 7; b++) {
            due("bride " + b, x.bride(40 + b, 50 + b, 1, 2), b);
        }
        due("an eighth", x.bride(40, 40, 0, 0), FULL);
        due("BAD ahead of FULL", x.bride(40, 40, 0, 12), BAD);
        due("seven", x.count(0), 7);
        due("left of 1", x.foot(1, 0, 0), 60);
        due("right of 3", x.foot(3, 1, 0), 53);
    }

    private static void make() {
        BrideShoes x = of("40/41s2h8", "l44,r45");
        due("bride -1", x.make(-1, 0, 40), BAD);
        due("bride 1", x.make(1, 0, 40), BAD);
        due("what -1", x.make(0, -1, 4), BAD);
        due("what 4", x.make(0, 4, 4), BAD);
        due("left 19", x.make(0, 0, 19), BAD);
        due("left 61", x.make(0, 0, 61), BAD);
        due("right 19", x.make(0, 1, 19), BAD);
        due("right 61", x.make(0, 1, 61), BAD);
        due("swell 5", x.make(0, 2, 5), BAD);
        due("swell -1", x.make(0, 2, -1), BAD);
        due("hour 12", x.make(0, 3, 12), BAD);
        due("hour -1", x.make(0, 3, -1), BAD);
        due("left was", x.make(0, 0, 60), 40);
        due("left is", x.make(0, 0, 20), 60);
        due("right was", x.make(0, 1, 60), 41);
        due("swell was", x.make(0, 2, 4), 2);
        due("hour was", x.make(0, 3, 11), 8);
        due("hour is", x.make(0, 3, 0), 11);
        due("the foot follows", x.foot(0, 0, 8), 28);
        due("the other foot follows", x.foot(0, 1, 8), 68);
    }

    private static void shoe() {
        BrideShoes x = new BrideShoes();
        due("side -1", x.shoe(-1, 40, 0), BAD);
        due("side 2", x.shoe(2, 40, 0), BAD);
        due("size 19", x.shoe(0, 19, 0), BAD);
        due("size 71", x.shoe(0, 71, 0), BAD);
        due("kind -1", x.shoe(0, 40, -1), BAD);
        due("kind 4", x.shoe(0, 40, 4), BAD);
        due("refused ones are none", x.count(1), 0);
        due("least", x.shoe(0, 20, 0), 0);
        due("most", x.shoe(1, 70, 3), 1);
        for (int s = 2; s < 16; s++) {
            due("shoe " + s, x.shoe(s & 1, 30 + s, s & 3), s);
        }
        due("a seventeenth", x.shoe(0, 40, 0), FULL);
        due("BAD ahead of FULL", x.shoe(0, 71, 0), BAD);
        due("sixteen", x.count(1), 16);
        due("after a smaller heap a new shoe is not lost", lostAgain(), 0);
    }

    private static int lostAgain() {
        BrideShoes x = of("", "l40,l41");
        x.lose(1, true);
        typed(x, "l40");
        x.heap();
        int s = x.shoe(1, 50, 1);
        return x.told(s, 3);
    }

    private static void told() {
        BrideShoes x = of("", "l40,r53p");
        due("shoe -1", x.told(-1, 0), BAD);
        due("shoe 2", x.told(2, 0), BAD);
        due("what -1", x.told(0, -1), BAD);
        due("what 4", x.told(0, 4), BAD);
        due("side", x.told(1, 0), 1);
        due("size", x.told(1, 1), 53);
        due("kind", x.told(1, 2), 3);
        due("not lost", x.told(1, 3), 0);
        x.lose(1, true);
        due("lost", x.told(1, 3), 1);
        due("the other not", x.told(0, 3), 0);
    }

    private static void lose() {
        BrideShoes x = of("", "l40,r53p");
        due("shoe -1", x.lose(-1, true), BAD);
        due("shoe 2", x.lose(2, true), BAD);
        due("lose", x.lose(0, true), 0);
        due("lose again", x.lose(0, true), 1);
        due("find", x.lose(0, false), 1);
        due("find again", x.lose(0, false), 0);
    }

    private static void set() {
        BrideShoes x = of("40/40", "l43,l36");
        due("what -1", x.set(-1, 1), BAD);
        due("what 2", x.set(2, 1), BAD);
        due("v -1", x.set(0, -1), BAD);
        due("v 7", x.set(0, 7), BAD);
        due("out 7", x.set(1, 7), BAD);
        due("LOOSE 2: too large", x.asked(0, 0, 0), NONE);
        due("LOOSE", x.set(0, 3), 2);
        due("LOOSE 3: it goes", x.asked(0, 0, 0), 0);
        due("LOOSE was", x.set(0, 6), 3);
        due("LOOSE was", x.set(0, 0), 6);
        due("OUT 3: too small", x.asked(1, 0, 0), NONE);
        due("OUT", x.set(1, 4), 3);
        due("OUT 4: it goes", x.asked(1, 0, 0), 4);
        due("OUT was", x.set(1, 6), 4);
        due("OUT was", x.set(1, 0), 6);
    }

    private static void foot() {
        BrideShoes x = of("40/51s3h2", "");
        due("bride -1", x.foot(-1, 0, 0), BAD);
        due("bride 1", x.foot(1, 0, 0), BAD);
        due("side -1", x.foot(0, -1, 0), BAD);
        due("side 2", x.foot(0, 2, 0), BAD);
        due("hour -1", x.foot(0, 0, -1), BAD);
        due("hour 12", x.foot(0, 0, 12), BAD);
        int[] left = {40, 40, 41, 42, 43, 43, 44, 45, 46, 46, 47, 48};
        for (int h = 0; h < 12; h++) {
            due("left at " + h, x.foot(0, 0, h), left[h]);
            due("right at " + h, x.foot(0, 1, h), left[h] + 11);
        }
    }

    private static void asked() {
        BrideShoes x = of("40/50s4h0", "l40,l42,l43,l37,l36,r50");
        due("shoe -1", x.asked(-1, 0, 0), BAD);
        due("shoe 6", x.asked(6, 0, 0), BAD);
        due("bride -1", x.asked(0, -1, 0), BAD);
        due("bride 1", x.asked(0, 1, 0), BAD);
        due("hour -1", x.asked(0, 0, -1), BAD);
        due("hour 12", x.asked(0, 0, 12), BAD);
        due("as large", x.asked(0, 0, 0), 0);
        due("loose", x.asked(1, 0, 0), 0);
        due("too loose", x.asked(2, 0, 0), NONE);
        due("let out", x.asked(3, 0, 0), 3);
        due("too small", x.asked(4, 0, 0), NONE);
        due("the right foot", x.asked(5, 0, 0), 0);
        due("later it swelled", x.asked(2, 0, 1), 0);
        due("and asks", x.asked(2, 0, 6), 3);
        x.lose(3, true);
        due("lost ones as well", x.asked(3, 0, 0), 3);
        kindsAsked();
    }

    private static void kindsAsked() {
        // By size 34 .. 44 on a foot of 40; LOOSE 2, OUT 3.
        int[][] want = {
            {NONE, NONE, NONE, 3, 2, 1, 0, 0, 0, NONE, NONE},
            {NONE, NONE, NONE, NONE, NONE, NONE, 0, NONE, NONE, NONE, NONE},
            {NONE, NONE, 3, 2, 1, 0, 0, 0, 0, NONE, NONE},
            {NONE, NONE, NONE, 1, 0, 0, 0, 0, 0, NONE, NONE},
        };
        for (int kind = 0; kind < 4; kind++) {
            BrideShoes x = of("30/40", "");
            for (int i = 0; i < 11; i++) {
                int s = x.shoe(1, 34 + i, kind);
                due("kind " + kind + " size " + (34 + i), x.asked(s, 0, 0), want[kind][i]);
            }
            x.set(1, 0);
            for (int i = 0; i < 11; i++) {
                due("OUT 0: kind " + kind + " size " + (34 + i), x.asked(i, 0, 0), want[kind][i] > 0 ? NONE : want[kind][i]);
            }
        }
    }

    private static void whose() {
        BrideShoes x = of("40/40,41/50,42/42s4,30/40", "l41,r40,l70");
        due("shoe -1", x.whose(-1, 0), BAD);
        due("shoe 3", x.whose(3, 0), BAD);
        due("hour -1", x.whose(0, -1), BAD);
        due("hour 12", x.whose(0, 12), BAD);
        due("left", x.whose(0, 0), 7);
        due("left at 3", x.whose(0, 3), 3);
        due("right", x.whose(1, 0), 13);
        due("nobody", x.whose(2, 0), 0);
        x.lose(1, true);
        due("lost ones as well", x.whose(1, 0), 13);
    }

    private static void type() {
        BrideShoes x = new BrideShoes();
        due("n 0", x.type(65, 0), BAD);
        due("n 9", x.type(0x4141414141414141L, 9), BAD);
        due("n -1", x.type(65, -1), BAD);
        due("byte 31", x.type(31, 1), BAD);
        due("byte 127", x.type(127, 1), BAD);
        due("byte 200", x.type(200, 1), BAD);
        due("a byte ahead is bad", x.type(0x1F41, 2), BAD);
        due("the higher ones do not count", x.type(0x1F41, 1), 1);
        due("byte 32, 126", x.type(0x207E, 2), 3);
        due("eight", x.type(0x4142434445464748L, 8), 11);
        due("the highest of eight", x.type(0x8042434445464748L, 8), BAD);
        due("it is empty then", x.brides(), -20);
        for (int i = 1; i <= 14; i++) {
            due("by eight", x.type(0x2020202020202020L, 8), 8 * i);
        }
        due("112 and 7", x.type(0x20202020202020L, 7), 119);
        due("119 and 2", x.type(0x2020, 2), FULL);
        due("119 and 1", x.type(0x20, 1), 120);
        due("121", x.type(0x20, 1), FULL);
        due("BAD ahead of FULL", x.type(0x1F, 1), BAD);
        due("all blank, the end", x.heap(), -140);
        typed(x, "l4");
        typedBehind(x, 2, "5");
        due("the highest first, behind what was", x.heap(), 1);
        due("l45", x.told(0, 1), 45);
    }

    private static void brides() {
        bridesDue("40/41", 1);
        bridesDue("20/60s0h0", 1);
        bridesDue("60/20s4h11", 1);
        bridesDue("0040/000060s4h0011", 1);
        bridesDue("40/40,40/40,40/40,40/40,40/40,40/40,40/40", 7);
        bridesDue("40/40,40/40,40/40,40/40,40/40,40/40,40/40,", -61);
        bridesDue("  40 / 41  s  2  h  3  ,  42/42  ", 2);
        bridesDue("", -20);
        bridesDue("   ", -23);
        bridesDue("x", -20);
        bridesDue("  x", -22);
        bridesDue("19/40", -20);
        bridesDue("61/40", -20);
        bridesDue("99999999999999999999/40", -20);
        bridesDue("4294967336/40", -20);
        bridesDue("  19/40", -22);
        bridesDue("40", -22);
        bridesDue("40 ", -23);
        bridesDue("4 0/40", -20);
        bridesDue("40 0/40", -23);
        bridesDue("40//40", -23);
        bridesDue("40/19", -23);
        bridesDue("40/061", -23);
        bridesDue("40/ 61", -24);
        bridesDue("40/40s", -26);
        bridesDue("40/40s5", -26);
        bridesDue("40/40s12", -27);
        bridesDue("40/40s04", -27);
        bridesDue("40/40s x", -27);
        bridesDue("40/40h", -26);
        bridesDue("40/40h12", -26);
        bridesDue("40/40h1 1", -28);
        bridesDue("40/40h1s1", -27);
        bridesDue("40/40S1", -25);
        bridesDue("40/40,", -26);
        bridesDue("40/40,,", -26);
        bridesDue("40/40;40/40", -25);
        bridesDue("40/-40", -23);
        bridesDue("40/40,42/42s4h9,61/40", -36);
        bridesRead();
    }

    private static void bridesRead() {
        BrideShoes x = of("40/41s2h8,42/43,38/39s4h11,45/44h3", "");
        int[][] want = {{40, 41, 2, 8}, {42, 43, 0, 0}, {38, 39, 4, 11}, {45, 44, 0, 3}};
        for (int b = 0; b < 4; b++) {
            for (int what = 0; what < 4; what++) {
                due("bride " + b + " what " + what, x.make(b, what, what < 2 ? 30 : 0), want[b][what]);
            }
        }
        typed(x, "50/51");
        due("in place of those told", x.brides(), 1);
        due("one", x.count(0), 1);
        due("she", x.foot(0, 1, 0), 51);
        due("the second is none", x.foot(1, 0, 0), BAD);
        due("the next", x.bride(30, 30, 0, 0), 1);
    }

    private static void heap() {
        heapDue("l40", 1);
        heapDue("r20g", 1);
        heapDue("l70v,r70p", 2);
        heapDue(" l 0040 p , r 41 ", 2);
        heapDue("l40,l40,l40,l40,l40,l40,l40,l40,l40,l40,l40,l40,l40,l40,l40,l40", 16);
        heapDue("l40,l40,l40,l40,l40,l40,l40,l40,l40,l40,l40,l40,l40,l40,l40,l40,", -83);
        heapDue("", -20);
        heapDue("  ", -22);
        heapDue("x40", -20);
        heapDue("L40", -20);
        heapDue("40", -20);
        heapDue("l", -21);
        heapDue("l ", -22);
        heapDue("l19", -21);
        heapDue("l71", -21);
        heapDue("l 71", -22);
        heapDue("l4294967336", -21);
        heapDue("lr40", -21);
        heapDue("l4 0", -21);
        heapDue("l40 0", -24);
        heapDue("l40x", -23);
        heapDue("l40gg", -24);
        heapDue("l40G", -23);
        heapDue("l40,", -24);
        heapDue("l40,,", -24);
        heapDue("l40;r40", -23);
        heapDue("l40 r40", -24);
        heapDue("l40g,r39v,l71p", -31);
        heapRead();
    }

    private static void heapRead() {
        BrideShoes x = of("", "l40,r41g,l42v,r43p");
        x.lose(0, true);
        typed(x, "r50p,l51v,r52g,l53");
        due("in place of all", x.heap(), 4);
        int[][] want = {{1, 50, 3, 0}, {0, 51, 2, 0}, {1, 52, 1, 0}, {0, 53, 0, 0}};
        for (int s = 0; s < 4; s++) {
            for (int what = 0; what < 4; what++) {
                due("shoe " + s + " what " + what, x.told(s, what), want[s][what]);
            }
        }
        typed(x, "l44");
        due("fewer", x.heap(), 1);
        due("one", x.count(1), 1);
        due("the second is none", x.told(1, 0), BAD);
    }

    private static void count() {
        BrideShoes x = of("40/40,41/41", "l40,l41,l42,r40,r41,r42,r43");
        due("what -1", x.count(-1), BAD);
        due("what 5", x.count(5), BAD);
        x.lose(1, true);
        x.lose(4, true);
        int[] want = {2, 7, 2, 3, 2};
        for (int what = 0; what < 5; what++) {
            due("count " + what, x.count(what), want[what]);
        }
    }

    private static void shod() {
        BrideShoes x = of("40/40,40/50", "l38,l40,l39,l41,r40");
        due("side -1", x.shod(-1, 0), BAD);
        due("side 2", x.shod(2, 0), BAD);
        due("bride -2", x.shod(0, -2), BAD);
        due("bride 2", x.shod(0, 2), BAD);
        due("not for all", x.shod(1, -1), NONE);
        due("not for all", x.shod(1, 0), NONE);
        due("BAD ahead of NONE", x.shod(1, 2), BAD);
        due("together", x.shod(0, -1), 0);
        due("the first such row: 0", x.shod(0, 0), 1);
        due("the first such row: 1", x.shod(0, 1), 3);
        x.lose(1, true);
        due("a lost one is not put on", x.shod(0, -1), 1);
        due("of like rows the first", x.shod(0, 0), 2);
        due("of like rows the first", x.shod(0, 1), 3);
        x.make(0, 3, 11);
        x.make(0, 2, 1);
        due("at the hour at which she is wed", x.shod(0, -1), 2);
        due("of like rows the first, asked 1 and 1", x.shod(0, 0), 3);
        due("of like rows the first, asked 1 and 1", x.shod(0, 1), 2);
        due("no brides", of("", "l40").shod(0, -1), 0);
        due("no brides, bride 0", of("", "l40").shod(0, 0), BAD);
        due("more than shoes", of("40/40,40/40", "l40").shod(0, -1), NONE);
        leastTogether();
    }

    private static void leastTogether() {
        // Bride 0 could have shoe 0 for nothing, but then bride 1 has none.
        BrideShoes x = of("40/30,42/30", "l40,l38");
        due("together", x.shod(0, -1), 4);
        due("bride 0", x.shod(0, 0), 1);
        due("bride 1", x.shod(0, 1), 0);
        // Bride 0 asks nothing of either, bride 1 less of shoe 0.
        BrideShoes z = of("38/30,42/30", "l40,l39");
        due("together the least", z.shod(0, -1), 2);
        due("bride 0, not the first row", z.shod(0, 0), 1);
        due("bride 1", z.shod(0, 1), 0);
        BrideShoes y = of("40/40,40/40,40/40,40/40,40/40,40/40,40/40",
            "l30,r40,r41,r42,r40,r41,r42,r40,l40,l40,l40,l40,l40,l40,l40,l37");
        for (int b = 0; b < 7; b++) {
            due("the last shoes " + b, y.shod(0, b), 8 + b);
        }
        y.lose(8, true);
        due("by one let out", y.shod(0, -1), 3);
        due("the last has the smallest", y.shod(0, 6), 15);
    }

    private static void most() {
        BrideShoes x = of("40/40,40/50,44/44", "l40,l41,r43,r44,l20");
        due("side -1", x.most(-1), BAD);
        due("side 2", x.most(2), BAD);
        due("left", x.most(0), 2);
        due("right", x.most(1), 1);
        x.lose(1, true);
        due("without 1", x.most(0), 1);
        x.lose(0, true);
        due("without 0", x.most(0), 0);
        due("nobody", of("", "l40").most(0), 0);
        due("one for each", of("40/40,42/42", "l40,l40,l42").most(0), 2);
    }

    private static void chain() {
        BrideShoes x = of("40/40,42/42,44/44", "l40,l42,l44,l46,r40,l20");
        due("shoe -1", x.chain(-1), BAD);
        due("shoe 6", x.chain(6), BAD);
        due("all must change", x.chain(0), 3);
        due("two must", x.chain(1), 2);
        due("the last alone", x.chain(2), 1);
        due("it is on no foot", x.chain(3), NOT);
        due("no way for all by its side", x.chain(4), NOT);
        due("it fits nobody", x.chain(5), NOT);
        x.lose(3, true);
        due("none without it", x.chain(0), NONE);
        due("it is lost", x.chain(3), NOT);
        x.lose(1, true);
        due("no way", x.chain(0), NOT);
        due("nobody", of("", "l40").chain(0), NOT);
        // FOR ALL asks 0, the shortest chain asks 3: what is asked does not matter.
        BrideShoes y = of("40/40,43/43", "l40,l43,l45,l37");
        due("shortest, whatever is asked", y.chain(0), 1);
        due("nothing is lost by it", y.told(0, 3), 0);
    }

    private static void limps() {
        BrideShoes x = of("40/50s4h0", "l40,l42,l43,l39,l45g,l38v,l36p,r49g,r70");
        due("bride -1", x.limps(-1, 0, 0), -100001);
        due("bride 1", x.limps(1, 0, 0), -100001);
        due("shoe -1", x.limps(0, -1, 0), -100001);
        due("shoe 9", x.limps(0, 9, 0), -100001);
        due("hour -1", x.limps(0, 0, -1), -100001);
        due("hour 12", x.limps(0, 0, 12), -100001);
        int[] want = {0, 0, 1, -1, 5, -1, -2, -1, 18};
        for (int s = 0; s < 9; s++) {
            due("limps by " + s, x.limps(0, s, 0), want[s]);
        }
        due("later", x.limps(0, 0, 11), -11);
        x.lose(2, true);
        due("lost", x.limps(0, 2, 0), 1);
        x.set(0, 0);
        due("LOOSE 0", x.limps(0, 2, 0), 3);
        due("LOOSE 0, glass", x.limps(0, 4, 0), 5);
    }

    private static void tries() {
        BrideShoes x = of("", "l40,l41,l42,l43,l44,r40,r42p,r70,r42g");
        due("side -1", x.tries(-1, 40, 44, 0), BAD);
        due("side 2", x.tries(2, 40, 44, 0), BAD);
        due("a 19", x.tries(0, 19, 44, 0), BAD);
        due("b 61", x.tries(0, 40, 61, 0), BAD);
        due("a 61", x.tries(0, 61, 61, 0), BAD);
        due("b 19", x.tries(0, 19, 19, 0), BAD);
        due("a above b", x.tries(0, 41, 40, 0), BAD);
        due("what -1", x.tries(0, 40, 44, -1), BAD);
        due("what 2", x.tries(0, 40, 44, 2), BAD);
        due("five sizes", x.tries(0, 40, 44, 0), 2);
        due("five sizes, first", x.tries(0, 40, 44, 1), 41);
        due("three", x.tries(0, 40, 42, 0), 1);
        due("three, first", x.tries(0, 40, 42, 1), 41);
        due("two", x.tries(0, 40, 41, 0), 1);
        due("two, first", x.tries(0, 40, 41, 1), 40);
        due("one", x.tries(0, 30, 30, 0), 0);
        due("one, first", x.tries(0, 30, 30, 1), NONE);
        due("seven", x.tries(0, 39, 45, 0), 2);
        due("seven, first", x.tries(0, 39, 45, 1), 42);
        due("six", x.tries(0, 40, 45, 0), 2);
        due("six, first", x.tries(0, 40, 45, 1), 42);
        due("six the other way", x.tries(0, 39, 44, 1), 41);
        due("too many", x.tries(0, 38, 45, 0), NONE);
        due("too many, first", x.tries(0, 38, 45, 1), NONE);
        due("right", x.tries(1, 39, 43, 0), 2);
        due("right, first", x.tries(1, 39, 43, 1), 40);
        due("right, not 41 from 40 to 43", x.tries(1, 41, 44, 0), NONE);
        due("from the highest", x.tries(1, 59, 60, 0), NONE);
        BrideShoes y = of("", "r20,l60,r21,l58");
        due("from the least", y.tries(1, 20, 22, 0), 1);
        due("from the least, first", y.tries(1, 20, 22, 1), 21);
        due("to the most", y.tries(0, 57, 60, 0), 2);
        due("to the most, first", y.tries(0, 57, 60, 1), 58);
        due("too far", y.tries(0, 56, 60, 0), NONE);
        x.lose(2, true);
        due("a lost one tells nothing", x.tries(0, 40, 44, 0), 2);
        due("41 and 43 alone", x.tries(0, 40, 44, 1), 41);
        x.lose(1, true);
        due("41, 42 are alike", x.tries(0, 40, 44, 0), NONE);
    }

    private static void image() {
        BrideShoes x = of("40/41s2h8", "l40,r41g");
        x.set(0, 5);
        x.lose(1, true);
        due("image", x.image(), 1);
        x.make(0, 0, 50);
        x.bride(30, 30, 0, 0);
        due("again, it is the later one", x.image(), 1);
        x.make(0, 0, 60);
        due("restore", x.restore(), 1);
        due("two brides", x.count(0), 2);
        due("left", x.foot(0, 0, 0), 50);
    }

    private static void restore() {
        BrideShoes x = of("40/41s2h8", "l40,r41g");
        due("none", x.restore(), NONE);
        x.set(0, 5);
        x.set(1, 1);
        x.lose(1, true);
        x.image();
        typed(x, "l4");
        filled(x, 2, 0, 7, 8, 9);
        x.set(0, 0);
        x.set(1, 0);
        x.lose(1, false);
        x.shoe(0, 44, 2);
        x.make(0, 2, 0);
        x.bride(44, 44, 0, 0);
        due("restore", x.restore(), 1);
        due("brides", x.count(0), 1);
        due("shoes", x.count(1), 2);
        due("lost", x.told(1, 3), 1);
        due("kind", x.told(1, 2), 1);
        due("LOOSE", x.set(0, 3), 5);
        due("OUT", x.set(1, 3), 1);
        due("swell", x.make(0, 2, 0), 2);
        due("the tape stays", x.type('4', 1), 3);
        due("the sheets stay", x.drop(2), 3);
        due("the image stays as it was", x.restore(), 1);
        due("swell again", x.make(0, 2, 0), 2);
    }

    private static void changed() {
        BrideShoes x = of("40/30,44/30,48/30", "l40,l44,l48");
        filled(x, 0, 0, -4, -128, 127);
        refusedChanged(x);
        filled(x, 0, 0, 2, -4, 0);
        due("0 had hers of 1", x.changed(0, 0, 0, 0, 3, -1), 1);
        filled(x, 0, 1, 9, 2, 2, -8);
        due("a round", x.changed(0, 0, 1, 1, 3, -1), 1);
        due("0", x.changed(0, 0, 1, 1, 3, 0), 1);
        due("1", x.changed(0, 0, 1, 1, 3, 1), 2);
        due("2", x.changed(0, 0, 1, 1, 3, 2), 0);
        filled(x, 0, 2, 0, 0, 0);
        due("each her own", x.changed(0, 0, 2, 0, 2, 1), 1);
        filled(x, 0, 2, 2, 0, 0);
        due("none", x.changed(0, 0, 2, 0, 3, -1), NONE);
        due("none", x.changed(0, 0, 2, 0, 3, 2), NONE);
        due("one alone", x.changed(0, 0, 2, 1, 1, 0), 0);
        manyChanged();
    }

    private static void refusedChanged(BrideShoes x) {
        due("side 2", x.changed(2, 0, 0, 0, 3, 0), BAD);
        due("side -1", x.changed(-1, 0, 0, 0, 3, 0), BAD);
        due("sheet 4", x.changed(0, 4, 0, 0, 3, 0), BAD);
        due("sheet -1", x.changed(0, -1, 0, 0, 3, 0), BAD);
        due("lane 3", x.changed(0, 0, 3, 0, 3, 0), BAD);
        due("lane -1", x.changed(0, 0, -1, 0, 3, 0), BAD);
        due("n 0", x.changed(0, 0, 0, 0, 0, -1), BAD);
        due("n 4 of 3", x.changed(0, 0, 0, 0, 4, 0), BAD);
        due("k 3", x.changed(0, 0, 0, 0, 3, 3), BAD);
        due("k 1 of 1", x.changed(0, 0, 0, 0, 1, 1), BAD);
        due("k -2", x.changed(0, 0, 0, 0, 3, -2), BAD);
        due("no way for all, BAD ahead", x.changed(1, 0, 0, 0, 4, 0), BAD);
        due("no way for all", x.changed(1, 0, 0, 0, 3, 0), NOT);
        due("NOT ahead of NULL", x.changed(1, 1, 0, 0, 3, 0), NOT);
        due("NULL", x.changed(0, 1, 0, 0, 3, 0), NULL);
        due("NULL ahead of INDEX", x.changed(0, 1, 0, 200, 3, 0), NULL);
        due("CAST ahead of INDEX", x.changed(0, 0, 1, 200, 3, 0), CAST);
        due("INDEX", x.changed(0, 0, 0, 1, 3, 0), INDEX);
        due("INDEX -1", x.changed(0, 0, 0, -1, 3, 0), INDEX);
        due("INDEX, the largest", x.changed(0, 0, 0, Integer.MAX_VALUE, 3, 0), INDEX);
        due("none", x.changed(0, 0, 0, 0, 3, 0), NONE);
    }

    private static void manyChanged() {
        BrideShoes x = of("40/40,40/40,40/40,40/40,40/40,40/40,40/40", "l40,l40,l40,l40,l40,l40,l40");
        filled(x, 3, 2, 0, 0, 0, 0, 0, 0, 0);
        due("all rows of six", x.changed(0, 3, 2, 0, 6, -1), 720);
        for (int k = 0; k < 6; k++) {
            due("the first is as they are", x.changed(0, 3, 2, 0, 6, k), k);
        }
        due("n 7", x.changed(0, 3, 2, 0, 7, -1), BAD);
        // By FOR ALL bride 0 has shoe 1; a row tells brides, not shoes.
        BrideShoes y = of("38/38,42/42,30/30", "l40,l39,l30");
        due("bride 0", y.shod(0, 0), 1);
        filled(y, 0, 0, 0, -2);
        due("her own", y.changed(0, 0, 0, 0, 2, 0), 0);
        filled(y, 0, 0, 0, -3);
        due("the other's", y.changed(0, 0, 0, 0, 2, 0), 1);
        due("the other's", y.changed(0, 0, 0, 0, 2, 1), 0);
        y.make(1, 2, 4);
        y.make(1, 3, 1);
        due("at her hour", y.changed(0, 0, 0, 0, 2, 0), 0);
    }

    private static void firm() {
        BrideShoes x = new BrideShoes();
        filled(x, 1, 0, 9, 0, 1, 1, 0, 1, 0, 0, 1);
        due("sheet 4", x.firm(4, 0, 1, 2, 0), BAD);
        due("sheet -1", x.firm(-1, 0, 1, 2, 0), BAD);
        due("lane 3", x.firm(1, 3, 1, 2, 0), BAD);
        due("lane -1", x.firm(1, -1, 1, 2, 0), BAD);
        due("n 1", x.firm(1, 0, 1, 1, 0), BAD);
        due("n 8", x.firm(1, 0, 1, 8, 0), BAD);
        due("bride -1", x.firm(1, 0, 1, 2, -1), BAD);
        due("bride 2 of 2", x.firm(1, 0, 1, 2, 2), BAD);
        due("BAD ahead of NULL", x.firm(0, 0, 1, 2, 2), BAD);
        due("NULL", x.firm(0, 0, 1, 2, 0), NULL);
        due("NULL ahead of INDEX", x.firm(0, 0, -1, 2, 0), NULL);
        due("CAST ahead of INDEX", x.firm(1, 1, -1, 2, 0), CAST);
        due("INDEX", x.firm(1, 0, 2, 2, 0), INDEX);
        due("INDEX -1", x.firm(1, 0, -1, 2, 0), INDEX);
        due("INDEX ahead of NOT", x.firm(1, 0, 0, 3, 0), INDEX);
        due("NOT", x.firm(1, 0, 0, 2, 0), NOT);
        due("brides' best", x.firm(1, 0, 1, 2, 0), 0);
        due("brides' best", x.firm(1, 0, 1, 2, 1), 1);
        x.item(1, 0, 8, 0);
        due("the last row is none", x.firm(1, 0, 1, 2, 0), NOT);
        x.item(1, 0, 8, -1);
        due("below 0", x.firm(1, 0, 1, 2, 0), NOT);
        // Both brides like groom 0 best, and he bride 0.
        filled(x, 0, 2, 0, 1, 0, 1, 0, 1, 0, 1);
        due("bride 0 is kept", x.firm(0, 2, 0, 2, 0), 0);
        due("bride 1", x.firm(0, 2, 0, 2, 1), 1);
        // Three ways are firm: the best of each bride is the worst of her groom.
        filled(x, 0, 2, 0, 1, 2, 1, 2, 0, 2, 0, 1, 1, 2, 0, 2, 0, 1, 0, 1, 2);
        for (int b = 0; b < 3; b++) {
            due("the brides' best, not the grooms'", x.firm(0, 2, 0, 3, b), b);
        }
        // All brides like groom 1 best; he likes bride 2 best, then bride 0.
        filled(x, 0, 2, 1, 0, 2, 1, 2, 0, 1, 0, 2, 0, 1, 2, 2, 0, 1, 0, 1, 2);
        due("bride 0", x.firm(0, 2, 0, 3, 0), 0);
        due("bride 1", x.firm(0, 2, 0, 3, 1), 2);
        due("bride 2", x.firm(0, 2, 0, 3, 2), 1);
    }

    private static void judged() {
        BrideShoes x = new BrideShoes();
        filled(x, 0, 0, 9, 0, 1, 1, 0, 1, 0, 0, 1);
        filled(x, 1, 0, 1, 0);
        filled(x, 2, 1, 1, 0);
        due("sheet 4", x.judged(4, 0, 1, 2, 1), BAD);
        due("sheet -1", x.judged(-1, 0, 1, 2, 1), BAD);
        due("lane 3", x.judged(0, 3, 1, 2, 1), BAD);
        due("n 1", x.judged(0, 0, 1, 1, 1), BAD);
        due("n 8", x.judged(0, 0, 1, 8, 1), BAD);
        due("pairs 4", x.judged(0, 0, 1, 2, 4), BAD);
        due("pairs -1", x.judged(0, 0, 1, 2, -1), BAD);
        due("NULL of ranks", x.judged(3, 0, 1, 2, 1), NULL);
        due("CAST of ranks, ahead of NULL of pairs", x.judged(0, 1, 1, 2, 3), CAST);
        due("INDEX of ranks, ahead of NULL of pairs", x.judged(0, 0, 2, 2, 3), INDEX);
        due("INDEX -1 of ranks", x.judged(0, 0, -1, 2, 1), INDEX);
        due("NULL of pairs, ahead of NOT", x.judged(0, 0, 0, 2, 3), NULL);
        due("CAST of pairs", x.judged(0, 0, 0, 2, 2), CAST);
        due("sheet of one", x.sheet(1, 0, 1), 1);
        due("INDEX of pairs", x.judged(0, 0, 0, 2, 1), INDEX);
        filled(x, 1, 0, 1, 0, 5);
        due("NOT of ranks", x.judged(0, 0, 0, 2, 1), NOT);
        due("firm, though brides like others more", x.judged(0, 0, 1, 2, 1), NONE);
        x.item(1, 0, 1, 1);
        due("NOT of pairs", x.judged(0, 0, 1, 2, 1), NOT);
        x.item(1, 0, 1, 2);
        due("NOT of pairs, 2 of 2", x.judged(0, 0, 1, 2, 1), NOT);
        firstWhoLeaves();
    }

    private static void firstWhoLeaves() {
        BrideShoes x = new BrideShoes();
        filled(x, 0, 0, 1, 0, 2, 2, 0, 1, 2, 0, 1, 1, 0, 2, 0, 1, 2, 1, 0, 2);
        filled(x, 1, 0, 1, 0, 2);
        due("bride 0 is content, bride 1 leaves with 2", x.judged(0, 0, 0, 3, 1), 12);
        filled(x, 1, 0, 0, 1, 2);
        due("bride 0 with 1", x.judged(0, 0, 0, 3, 1), 1);
        filled(x, 1, 0, 2, 1, 0);
        due("bride 0 with 0", x.judged(0, 0, 0, 3, 1), 0);
        filled(x, 0, 0, 2, 0, 1, 2, 1, 0, 0, 1, 2, 0, 1, 2, 1, 2, 0, 1, 0, 2);
        filled(x, 1, 0, 2, 0, 1);
        due("bride 1 likes 2 more, but 1 is less", x.judged(0, 0, 0, 3, 1), 11);
        // A sheet whose first items are ranks and pairs at once: bride 0 has groom 0, bride 1 groom 1.
        filled(x, 2, 2, 0, 1, 1, 0, 0, 1, 1, 0);
        due("the same sheet", x.judged(2, 2, 0, 2, 2), NONE);
    }

    private static void sheet() {
        BrideShoes x = new BrideShoes();
        due("sheet 4", x.sheet(4, 0, 1), BAD);
        due("sheet -1", x.sheet(-1, 0, 1), BAD);
        due("lane 3", x.sheet(0, 3, 1), BAD);
        due("lane -1", x.sheet(0, -1, 1), BAD);
        due("n 101", x.sheet(0, 0, 101), BAD);
        due("n -1", x.sheet(0, 0, -1), SIZE);
        due("BAD ahead of SIZE", x.sheet(4, 0, -1), BAD);
        due("refused ones are none", x.drop(0), NULL);
        due("n 100", x.sheet(0, 0, 100), 100);
        due("n 0", x.sheet(3, 2, 0), 0);
        filled(x, 1, 2, 1, 0, 1, 0, 1, 0, 1, 0);
        due("a new row", x.sheet(1, 2, 8), 8);
        due("is of zeros", x.firm(1, 2, 0, 2, 0), NOT);
        due("a new lane", x.sheet(1, 0, 3), 3);
        due("the old lane", x.item(1, 2, 0, 0), CAST);
        due("refused: it stays", x.sheet(1, 2, -1), SIZE);
        due("three", x.drop(1), 3);
        zeros();
    }

    private static void zeros() {
        BrideShoes x = of("40/40", "l40");
        filled(x, 0, 0, 5, 5);
        x.sheet(0, 0, 2);
        due("zeros", x.changed(0, 0, 0, 1, 1, -1), 1);
        filled(x, 0, 0, 5, 5);
        x.drop(0);
        x.sheet(0, 0, 2);
        due("zeros after a drop", x.changed(0, 0, 0, 1, 1, -1), 1);
    }

    private static void drop() {
        BrideShoes x = new BrideShoes();
        due("sheet 4", x.drop(4), BAD);
        due("sheet -1", x.drop(-1), BAD);
        due("nothing", x.drop(2), NULL);
        x.sheet(2, 1, 17);
        due("17", x.drop(2), 17);
        due("nothing then", x.drop(2), NULL);
        x.sheet(2, 1, 0);
        due("an empty one", x.drop(2), 0);
        due("nothing then", x.item(2, 1, 0, 0), NULL);
    }

    private static void item() {
        BrideShoes x = new BrideShoes();
        x.sheet(0, 1, 3);
        due("sheet 4", x.item(4, 1, 0, 0), BAD);
        due("sheet -1", x.item(-1, 1, 0, 0), BAD);
        due("lane 3", x.item(0, 3, 0, 0), BAD);
        due("lane -1", x.item(0, -1, 0, 0), BAD);
        due("NULL", x.item(1, 1, 9, 0), NULL);
        due("CAST ahead of INDEX", x.item(0, 0, 9, 0), CAST);
        due("INDEX 3", x.item(0, 1, 3, 0), INDEX);
        due("INDEX -1", x.item(0, 1, -1, 0), INDEX);
        due("INDEX least", x.item(0, 1, Integer.MIN_VALUE, 0), INDEX);
        due("the last", x.item(0, 1, 2, 7), 1);
        x.sheet(1, 1, 0);
        due("INDEX of none", x.item(1, 1, 0, 0), INDEX);
        // What an item became, told by how one limped.
        for (int lane = 0; lane < 3; lane++) {
            itemBecomes(lane, -3, 37, 1);
            itemBecomes(lane, 0, 40, 1);
            itemBecomes(lane, -4, 37, NONE);
            itemBecomes(lane, 256, 40, lane == 0 ? 1 : NONE);
            itemBecomes(lane, 256 - 3, 37, lane == 0 ? 1 : NONE);
            itemBecomes(lane, 65536, 40, lane < 2 ? 1 : NONE);
            itemBecomes(lane, 65536 - 3, 37, lane < 2 ? 1 : NONE);
            itemBecomes(lane, -65536 - 3, 37, lane < 2 ? 1 : NONE);
        }
    }

    /** A shoe of a size on a foot of 40, told as v by one who limped: whether that is the one row. */
    private static void itemBecomes(int lane, int v, int size, int want) {
        BrideShoes x = of("40/40", "");
        x.shoe(0, size, 0);
        x.sheet(0, lane, 1);
        x.item(0, lane, 0, v);
        due("lane " + lane + " item " + v, x.changed(0, 0, lane, 0, 1, -1), want);
    }

    private static void copy() {
        BrideShoes x = new BrideShoes();
        x.sheet(0, 0, 5);
        x.sheet(1, 0, 3);
        x.sheet(2, 1, 3);
        due("from 4", x.copy(4, 0, 1, 0, 1), BAD);
        due("from -1", x.copy(-1, 0, 1, 0, 1), BAD);
        due("to 4", x.copy(0, 0, 4, 0, 1), BAD);
        due("to -1", x.copy(0, 0, -1, 0, 1), BAD);
        due("BAD ahead of NULL", x.copy(3, 0, 4, 0, 1), BAD);
        due("NULL to", x.copy(0, 0, 3, 0, 1), NULL);
        due("NULL from", x.copy(3, 0, 0, 0, 1), NULL);
        due("NULL ahead of INDEX", x.copy(3, 0, 0, 9, -1), NULL);
        due("NULL to, ahead of CAST", x.copy(2, 0, 3, 0, 1), NULL);
        due("NULL from, ahead of CAST", x.copy(3, 0, 2, 0, 1), NULL);
        due("CAST ahead of INDEX", x.copy(0, 9, 2, 0, 1), CAST);
        due("n -1", x.copy(0, 0, 1, 0, -1), INDEX);
        due("n least", x.copy(0, 0, 1, 0, Integer.MIN_VALUE), INDEX);
        due("n most", x.copy(0, 1, 1, 1, Integer.MAX_VALUE), INDEX);
        due("i -1", x.copy(0, -1, 1, 0, 0), INDEX);
        due("j -1", x.copy(0, 0, 1, -1, 0), INDEX);
        due("i 6, n 0", x.copy(0, 6, 1, 0, 0), INDEX);
        due("j 4, n 0", x.copy(0, 0, 1, 4, 0), INDEX);
        due("i 5, j 3, n 0", x.copy(0, 5, 1, 3, 0), 0);
        due("too many from", x.copy(0, 3, 1, 0, 3), INDEX);
        due("too many to", x.copy(0, 0, 1, 1, 3), INDEX);
        due("i most", x.copy(0, Integer.MAX_VALUE, 1, 0, 1), INDEX);
        due("three", x.copy(0, 2, 1, 0, 3), 3);
        copied();
    }

    private static void copied() {
        // Ranks of two: 8 items, moved within one sheet by one to the right and back.
        BrideShoes x = new BrideShoes();
        filled(x, 0, 1, 0, 1, 1, 0, 1, 0, 0, 1, 5);
        due("to the right", x.copy(0, 0, 0, 1, 8), 8);
        due("as if all were taken ahead", x.firm(0, 1, 1, 2, 1), 1);
        due("the first item stays", x.firm(0, 1, 0, 2, 1), NOT);
        due("to the left", x.copy(0, 1, 0, 0, 8), 8);
        due("as if all were taken ahead", x.firm(0, 1, 0, 2, 0), 0);
        x.sheet(1, 1, 10);
        due("to another", x.copy(0, 0, 1, 2, 8), 8);
        due("it is there", x.firm(1, 1, 2, 2, 0), 0);
        due("it is here, too", x.firm(0, 1, 0, 2, 0), 0);
        x.item(0, 1, 0, 1);
        due("each is its own", x.firm(1, 1, 2, 2, 0), 0);
    }
}
