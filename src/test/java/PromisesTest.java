/** Each promise by itself: ordinary calls, the edges that the document names, wrong calls. */
public final class PromisesTest {
    private static final int BAD = Due.BAD, NO = Due.NO, FULL = Due.FULL, NONE = Due.NONE;
    private static final int NOTHING = Due.NOTHING, KIND = Due.KIND, INDEX = Due.INDEX, SIZE = Due.SIZE;
    private static final int LEAST = Integer.MIN_VALUE, MOST = Integer.MAX_VALUE;
    private static final Due DUE = new Due("PromisesTest");

    private static void due(int promise, String call, int got, int want) {
        DUE.is("promise " + promise + ": " + call, got, want);
    }

    public static void main(String[] args) {
        newObject();
        digger();
        told();
        as();
        turnsSetSends();
        branch();
        branchOf();
        ruleSeedDeal();
        nights();
        warders();
        rock();
        lastNight();
        below();
        behind();
        reachesLeaves();
        light();
        wax();
        sentBecomes();
        like();
        feeFine();
        feedTrim();
        text();
        faults();
        deepTexts();
        texts();
        sheetMark();
        pourReads();
        copy();
        slots();
        tellCheck();
        keepBack();
        count();
        DUE.end();
    }

    private static void newObject() {
        SpoonPassage x = new SpoonPassage();
        int[] counts = {0, 0, 3, 0, 0, 0, 0, 0, 0, 1};
        for (int i = 0; i < counts.length; i++) {
            due(1, "count " + i, x.count(i), counts[i]);
        }
        int[] branch = {0, 10, 0, 0, 0, 0};
        for (int b = 0; b < 4; b++) {
            for (int i = 0; i < branch.length; i++) {
                due(1, "branch " + b + " " + i, x.branchOf(b, i), branch[i]);
            }
            due(1, "sheet " + b + " is missing", x.reads(b), NOTHING);
        }
        for (int s = 0; s < 5; s++) {
            due(1, "slot " + s + " holds nothing", x.lay(s, 0, 0), 0);
        }
        for (int key = 0; key < 3; key++) {
            due(1, "no law " + key, x.why(key), NONE);
        }
        for (int i = 0; i < 6; i++) {
            due(1, "below " + i, x.below(i), 0);
        }
        due(1, "no digger", x.told(0, 0), BAD);
        due(1, "no image", x.back(), NO);
    }

    private static void digger() {
        SpoonPassage x = new SpoonPassage();
        int[][] wrong = {{-1, 0, 0, 0}, {6, 0, 0, 0}, {0, -1, 0, 0}, {0, 100, 0, 0}, {0, 0, -1, 0}, {0, 0, 100, 0},
            {0, 0, 0, -1}, {0, 0, 0, 4}, {LEAST, 0, 0, 0}, {MOST, MOST, MOST, MOST}};
        for (int[] w : wrong) {
            due(2, "wrong", x.digger(w[0], w[1], w[2], w[3]), BAD);
        }
        due(2, "none came", x.count(0), 0);
        due(2, "the least", x.digger(0, 0, 0, 0), 0);
        due(2, "the most", x.digger(5, 99, 99, 3), 1);
        for (int i = 2; i < 10; i++) {
            due(2, "number", x.digger(i % 6, 50, 5, i % 4), i);
        }
        due(2, "an eleventh", x.digger(0, 0, 0, 0), FULL);
        due(2, "bad comes first", x.digger(6, 0, 0, 0), BAD);
        due(2, "ten stay", x.count(0), 10);
        int[] is = {5, 99, 99, 3, 0};
        for (int i = 0; i < is.length; i++) {
            due(2, "as it was told " + i, x.told(1, i), is[i]);
        }
    }

    private static void told() {
        SpoonPassage x = new SpoonPassage();
        for (int kind = 0; kind < 6; kind++) {
            x.digger(kind, 31, 20, 1);
        }
        x.digger(4, 31, 0, 1);
        x.digger(2, 31, 7, 0);
        x.digger(0, 5, 7, 0);
        x.digger(3, 5, 7, 0);
        // rock 10: plain is 21; the lodger 4 has uncle 2 beside it, lodger 6 isn't lit, uncle 7 is elsewhere
        int[] digs = {21, 22, 10, 22, 12, 1, 14, 10, 0, 1};
        int[] burns = {1, 2, 0, 2, 3, 2, 3, 0, 1, 2};
        int[] worth = {20, 51, 79, 102, 39, 0, 49, 92, 7, 24};
        for (int i = 0; i < 10; i++) {
            due(3, "digs " + i, x.told(i, 5), digs[i]);
            due(3, "burns " + i, x.told(i, 6), burns[i]);
            due(3, "worth " + i, x.told(i, 7), worth[i]);
        }
        x.branch(1, 0, 140);
        x.branch(1, 2, 100);
        due(3, "a boy's dig, 40 ahead", x.told(3, 5), 22);
        due(3, "what he burns", x.told(3, 6), 2);
        x.branch(1, 2, 99);
        due(3, "a boy's dig, 41 ahead", x.told(3, 5), 11);
        due(3, "what he burns", x.told(3, 6), 0);
        due(3, "a son is as ever", x.told(1, 5), 22);
        x.branch(1, 1, 32);
        due(3, "force below rock", x.told(0, 5), 0);
        due(3, "half of one", x.told(3, 5), 0);
        due(3, "a son against the rock", x.told(1, 5), 1);
        x.branch(1, 1, 0);
        x.set(1, 1, 99);
        due(3, "the most of a son", x.told(1, 5), 100);
        int[][] wrong = {{-1, 0}, {10, 0}, {LEAST, 0}, {MOST, 0}, {0, -1}, {0, 8}, {0, MOST}};
        for (int[] w : wrong) {
            due(3, "wrong", x.told(w[0], w[1]), BAD);
        }
        SpoonPassage y = new SpoonPassage();
        y.digger(5, 0, 99, 0);
        y.nights(19);
        due(3, "a nun's earth", y.told(0, 4), 19);
        due(3, "a tenth of it", y.told(0, 7), 1);
        due(3, "her candles", y.told(0, 2), 61);
        y.nights(1);
        due(3, "a tenth of 20", y.told(0, 7), 2);
    }

    private static void as() {
        SpoonPassage x = new SpoonPassage();
        for (int kind = 0; kind < 6; kind++) {
            x.digger(kind, 40 + kind, 1, 0);
        }
        // of each kind those that it is
        int[][] is = {{0}, {0, 1}, {0, 2}, {0, 1, 3}, {0, 2, 4}, {0, 5}};
        for (int kind = 0; kind < 6; kind++) {
            for (int asked = 0; asked < 6; asked++) {
                boolean one = false;
                for (int k : is[kind]) {
                    one |= k == asked;
                }
                due(4, kind + " as " + asked, x.as(kind, asked), one ? 40 + kind : KIND);
            }
        }
        due(4, "no digger", x.as(6, 0), BAD);
        due(4, "no digger", x.as(-1, 0), BAD);
        due(4, "no kind", x.as(0, 6), BAD);
        due(4, "no kind", x.as(0, -1), BAD);
    }

    private static void turnsSetSends() {
        SpoonPassage x = new SpoonPassage();
        x.digger(0, 10, 20, 0);
        due(5, "turns", x.turns(0, 4), 0);
        due(5, "and again", x.turns(0, 5), 4);
        due(5, "is", x.told(0, 0), 5);
        due(5, "digs as such", x.told(0, 5), 1);
        due(5, "no kind", x.turns(0, 6), BAD);
        due(5, "no kind", x.turns(0, -1), BAD);
        due(5, "no digger", x.turns(1, 0), BAD);
        due(5, "no digger", x.turns(-1, 0), BAD);
        due(5, "stays", x.told(0, 0), 5);

        due(6, "force", x.set(0, 1, 99), 10);
        due(6, "candles", x.set(0, 2, 0), 20);
        due(6, "force", x.told(0, 1), 99);
        due(6, "candles", x.told(0, 2), 0);
        int[][] wrong = {{0, 0, 1}, {0, 3, 1}, {0, 1, 100}, {0, 1, -1}, {0, 2, 100}, {0, 2, -1}, {1, 1, 1}, {-1, 1, 1}};
        for (int[] w : wrong) {
            due(6, "wrong", x.set(w[0], w[1], w[2]), BAD);
        }
        due(6, "stays", x.told(0, 1), 99);

        due(7, "sends", x.sends(0, 3), 0);
        due(7, "sends on", x.sends(0, 1), 3);
        due(7, "is there", x.told(0, 3), 1);
        due(7, "no branch", x.sends(0, 4), BAD);
        due(7, "no branch", x.sends(0, -1), BAD);
        due(7, "no digger", x.sends(1, 0), BAD);
        due(7, "no digger", x.sends(-1, 0), BAD);
        due(7, "stays", x.told(0, 3), 1);
    }

    private static void branch() {
        SpoonPassage x = new SpoonPassage();
        due(8, "dug", x.branch(3, 0, 999), 0);
        due(8, "warder", x.branch(3, 2, 999), 0);
        due(8, "warder back", x.branch(3, 2, 500), 999);
        due(8, "all the way", x.branch(3, 2, 0), 500);
        due(8, "and on", x.branch(3, 2, 500), 0);
        due(8, "dug to him", x.branch(3, 0, 500), 999);
        due(8, "dug below him", x.branch(3, 0, 499), BAD);
        due(8, "he above it", x.branch(3, 2, 501), BAD);
        due(8, "rock", x.branch(3, 1, 0), 10);
        due(8, "rock", x.branch(3, 1, 99), 0);
        int[][] wrong = {{-1, 0, 0}, {4, 0, 0}, {0, -1, 0}, {0, 3, 0}, {0, 0, -1}, {0, 0, 1000}, {0, 1, -1}, {0, 1, 100},
            {0, 2, -1}, {0, 2, 1}, {0, 0, MOST}, {0, 2, LEAST}};
        for (int[] w : wrong) {
            due(8, "wrong", x.branch(w[0], w[1], w[2]), BAD);
        }
        due(8, "dug", x.branchOf(3, 0), 500);
        due(8, "rock", x.branchOf(3, 1), 99);
        due(8, "warder", x.branchOf(3, 2), 500);
        due(8, "another one", x.branchOf(0, 0), 0);
    }

    private static void branchOf() {
        SpoonPassage x = new SpoonPassage();
        x.branch(2, 0, 70);
        x.branch(2, 2, 20);
        x.digger(0, 30, 1, 2);
        x.digger(0, 50, 1, 1);
        x.digger(1, 30, 0, 2);
        x.digger(3, 31, 1, 2);
        due(9, "dug", x.branchOf(2, 0), 70);
        due(9, "warder", x.branchOf(2, 2), 20);
        due(9, "ahead", x.branchOf(2, 3), 50);
        due(9, "diggers", x.branchOf(2, 4), 1 + 4 + 8);
        due(9, "they dig, the son has no light, the boy is far", x.branchOf(2, 5), 20 + 11);
        int[][] wrong = {{-1, 0}, {4, 0}, {0, -1}, {0, 6}, {LEAST, LEAST}};
        for (int[] w : wrong) {
            due(9, "wrong", x.branchOf(w[0], w[1]), BAD);
        }
    }

    private static void ruleSeedDeal() {
        SpoonPassage x = new SpoonPassage();
        due(10, "step", x.rule(0, 99), 3);
        due(10, "step", x.rule(0, 0), 99);
        due(10, "fall", x.rule(1, 100), 0);
        due(10, "fall", x.rule(1, 7), 100);
        int[][] wrong = {{0, 100}, {0, -1}, {1, 101}, {1, -1}, {2, 0}, {-1, 0}};
        for (int[] w : wrong) {
            due(10, "wrong", x.rule(w[0], w[1]), BAD);
        }
        due(10, "step", x.count(2), 0);
        due(10, "fall", x.count(3), 7);

        due(12, "seed", x.seed(LEAST), 1);
        due(12, "seed", x.seed(5), LEAST);
        due(12, "z", x.count(9), 5);

        due(11, "none", x.deal(0), BAD);
        due(11, "too many", x.deal(11), BAD);
        due(11, "seven", x.deal(7), 7);
        int z = 5;
        for (int i = 0; i < 7; i++) {
            int[] rests = {6, 40, 60, 4};
            int[] least = {0, 10, 5, 0};
            for (int what = 0; what < 4; what++) {
                z = z * 1103515245 + 12345;
                due(11, "drawn " + i + " " + what, x.told(i, what), (z >>> 8) % rests[what] + least[what]);
            }
        }
        due(11, "z", x.count(9), z);
        due(11, "there is room for three", x.deal(10), 3);
        for (int i = 0; i < 12; i++) {
            z = z * 1103515245 + 12345;
        }
        due(11, "no draws for others", x.count(9), z);
        due(11, "no room", x.deal(1), 0);
        due(11, "no draws", x.count(9), z);
    }

    private static void nights() {
        SpoonPassage x = new SpoonPassage();
        due(13, "none", x.nights(0), BAD);
        due(13, "too many", x.nights(101), BAD);
        due(13, "below", x.nights(LEAST), BAD);
        x.digger(0, 30, 3, 0);
        x.digger(1, 30, 5, 0);
        due(13, "20 and 21", x.nights(1), 41);
        due(13, "candles", x.told(0, 2), 2);
        due(13, "candles", x.told(1, 2), 3);
        due(13, "four more", x.nights(4), 40 + 42);
        due(13, "out", x.told(0, 2), 0);
        due(13, "the last candle lasts a night", x.told(1, 2), 0);
        due(13, "earth", x.told(0, 4), 60);
        due(13, "earth", x.told(1, 4), 63);
        due(13, "dug", x.branchOf(0, 0), 123);
        due(13, "the warder", x.branchOf(0, 2), 15);
        due(13, "the night", x.count(1), 5);
        due(13, "dark", x.nights(100), 0);

        SpoonPassage y = new SpoonPassage();
        y.branch(1, 0, 990);
        y.digger(0, 15, 9, 1);
        y.digger(0, 30, 9, 1);
        due(13, "up to 999", y.nights(1), 9);
        due(13, "he had room for 5", y.told(0, 4), 5);
        due(13, "he for 4", y.told(1, 4), 4);
        due(13, "and burns all the same", y.told(1, 2), 8);
        due(13, "999", y.branchOf(1, 0), 999);

        // the boy digs ahead of the son and is not far; behind the son he is
        SpoonPassage b = new SpoonPassage();
        b.digger(3, 50, 10, 0);
        b.digger(3, 50, 10, 0);
        due(13, "41, and half of it", b.nights(1), 41 + 20);
        due(13, "the first burns", b.told(0, 2), 8);
        due(13, "the other lets him get up", b.told(1, 2), 10);

        SpoonPassage m = new SpoonPassage();
        m.rule(0, 0);
        m.branch(0, 1, 0);
        m.digger(0, 99, 99, 0);
        for (int i = 0; i < 120; i++) {
            m.set(0, 2, 99);
            m.branch(0, 0, 0);
            m.nights(1);
        }
        due(13, "earth is 9999 at most", m.told(0, 4), 9999);
        m.branch(0, 0, 0);
        due(13, "no more", m.nights(1), 0);
        due(13, "but dug is", m.branchOf(0, 0), 99);
    }

    private static void warders() {
        SpoonPassage x = new SpoonPassage();
        x.rule(0, 5);
        x.branch(0, 0, 7);
        x.branch(1, 0, 5);
        x.branch(2, 0, 50);
        x.digger(0, 0, 1, 0);
        x.digger(0, 0, 0, 1);
        due(13, "a night", x.nights(1), 0);
        due(13, "he met the one", x.below(0), 1);
        due(13, "who went", x.told(1, 3), 2);
        due(13, "the other is there yet", x.told(0, 3), 0);
        x.nights(1);
        due(13, "and the other, in two branches", x.below(0), 3);
        due(13, "who came by 1 to 2 in one night", x.told(0, 3), 2);
        due(13, "the warder is not above dug", x.branchOf(0, 2), 7);
        due(13, "nor here", x.branchOf(3, 2), 0);
        x.sends(0, 3);
        x.nights(1);
        due(13, "behind 3 comes 0", x.told(0, 3), 0);
        due(13, "where nobody is met this night again", x.below(0), 4);
        SpoonPassage y = new SpoonPassage();
        y.nights(3);
        due(13, "nobody is met where nobody is", y.below(0), 0);
        y.digger(0, 0, 0, 0);
        y.nights(1);
        due(13, "round by all four", y.told(0, 3), 0);
        due(13, "met in each", y.below(0), 4);
    }

    private static void rock() {
        SpoonPassage x = new SpoonPassage();
        x.rule(1, 40);
        int z = 1;
        int falls = 0;
        int[] rock = {10, 10, 10, 10};
        for (int night = 0; night < 60; night++) {
            z = z * 1103515245 + 12345;
            if ((z >>> 8) % 100 < 40) {
                falls++;
                z = z * 1103515245 + 12345;
                int branch = (z >>> 8) % 4;
                z = z * 1103515245 + 12345;
                rock[branch] = (z >>> 8) % 100;
            }
            x.nights(1);
            due(13, "falls", x.below(1), falls);
            due(13, "z", x.count(9), z);
            for (int b = 0; b < 4; b++) {
                due(13, "rock " + b, x.branchOf(b, 1), rock[b]);
            }
        }
        x.rule(1, 0);
        for (int i = 0; i < 5; i++) {
            x.nights(100);
        }
        due(13, "none falls", x.count(5), falls);
    }

    private static void lastNight() {
        SpoonPassage x = new SpoonPassage();
        for (int i = 0; i < 99; i++) {
            x.nights(100);
        }
        x.nights(96);
        due(13, "the night", x.count(1), 9996);
        x.digger(5, 0, 99, 0);
        x.rule(0, 0);
        due(15, "thought is without the bound", x.behind(10, 2), 10);
        x.keep();
        int[] rows = {0, 1, 0, 2, 0, 3};
        for (int v : rows) {
            x.tell(v);
        }
        due(40, "fewer nights are told", x.check(30), 0);
        due(13, "three nights are left", x.nights(100), 3);
        due(13, "9999", x.count(1), 9999);
        due(13, "no more", x.nights(1), 0);
        due(13, "9999", x.count(1), 9999);
        x.keep();
        due(40, "none is told", x.check(1), 0);
        x.tell(0);
        due(40, "one too many", x.check(1), 1);
    }

    private static void below() {
        SpoonPassage x = new SpoonPassage();
        x.digger(0, 30, 11, 3);
        x.digger(0, 40, 12, 1);
        due(14, "candles", x.below(3), 23);
        due(14, "branches", x.below(4), 8 + 2);
        x.nights(2);
        due(14, "hill", x.below(2), 40 + 60);
        due(14, "front", x.below(5), 1);
        x.branch(3, 0, 60);
        due(14, "of several the least", x.below(5), 1);
        x.branch(3, 0, 61);
        due(14, "front", x.below(5), 3);
        x.branch(0, 0, 61);
        due(14, "of several the least", x.below(5), 0);
        due(14, "wrong", x.below(6), BAD);
        due(14, "wrong", x.below(-1), BAD);
    }

    private static void behind() {
        SpoonPassage x = new SpoonPassage();
        x.seed(77);
        x.rule(1, 50);
        x.deal(6);
        int z = x.count(9);
        int[] due = new int[7];
        for (int n = 0; n <= 100; n += 20) {
            for (int what = 0; what < 7; what++) {
                due[what] = x.behind(n, what);
            }
            due(15, "z stays", x.count(9), z);
            SpoonPassage y = new SpoonPassage();
            y.seed(77);
            y.rule(1, 50);
            y.deal(6);
            if (n > 0) {
                y.nights(n);
            }
            due(15, "met", due[0], y.below(0));
            due(15, "falls", due[1], y.below(1));
            due(15, "hill", due[2], y.below(2));
            for (int b = 0; b < 4; b++) {
                due(15, "dug " + b, due[3 + b], y.branchOf(b, 0));
            }
        }
        due(15, "nothing changes", x.below(2), 0);
        due(15, "nothing changes", x.count(1), 0);
        int[][] wrong = {{-1, 0}, {101, 0}, {0, -1}, {0, 7}, {MOST, 0}, {0, MOST}};
        for (int[] w : wrong) {
            due(15, "wrong", x.behind(w[0], w[1]), BAD);
        }
    }

    private static void reachesLeaves() {
        SpoonPassage x = new SpoonPassage();
        x.rule(0, 0);
        x.branch(2, 0, 3);
        x.digger(2, 14, 1, 2);
        due(16, "now", x.reaches(2, 3), 0);
        due(16, "none is wanted", x.reaches(0, 0), 0);
        due(16, "never", x.reaches(0, 999), NONE);
        due(16, "by 2 a night", x.reaches(2, 4), 1);
        due(16, "by 2 a night", x.reaches(2, 403), 200);
        due(16, "not by then", x.reaches(2, 404), NONE);
        due(16, "wrong", x.reaches(4, 0), BAD);
        due(16, "wrong", x.reaches(-1, 0), BAD);
        due(16, "wrong", x.reaches(0, -1), BAD);
        due(16, "wrong", x.reaches(0, 1000), BAD);
        due(16, "nothing changes", x.branchOf(2, 0), 3);

        due(17, "not followed", x.leaves(0), NONE);
        due(17, "no digger", x.leaves(1), BAD);
        due(17, "no digger", x.leaves(-1), BAD);
        x.set(0, 2, 0);
        x.rule(0, 1);
        due(17, "three nights on", x.leaves(0), 3);
        x.branch(2, 0, 200);
        due(17, "the last that is thought of", x.leaves(0), 200);
        x.branch(2, 0, 201);
        due(17, "one too far", x.leaves(0), NONE);
        due(17, "nothing changes", x.told(0, 3), 2);
        SpoonPassage y = new SpoonPassage();
        y.digger(0, 0, 0, 0);
        due(17, "round by all is nowhere else", y.leaves(0), NONE);
    }

    private static void light() {
        SpoonPassage x = new SpoonPassage();
        x.rule(0, 0);
        x.digger(0, 20, 9, 0);
        x.digger(0, 30, 9, 1);
        x.digger(0, 40, 9, 2);
        x.digger(0, 30, 9, 3);
        x.digger(0, 99, 0, 3);
        due(18, "none is needed", x.light(10, 0), 0);
        due(18, "one", x.light(1, 10), 1);
        due(18, "the least of two", x.light(1, 20), 2);
        due(18, "one", x.light(1, 30), 4);
        due(18, "two rather than a lesser three", x.light(1, 40), 1 + 4);
        due(18, "two", x.light(1, 50), 2 + 4);
        due(18, "three", x.light(2, 140), 2 + 4 + 8);
        due(18, "all that have light", x.light(2, 160), 15);
        due(18, "by none", x.light(2, 161), NONE);
        due(18, "no night", x.light(0, 1), NONE);
        due(18, "more than can be", x.light(10, 9999), NONE);
        int[][] wrong = {{-1, 0}, {11, 0}, {0, -1}, {0, 10000}};
        for (int[] w : wrong) {
            due(18, "wrong", x.light(w[0], w[1]), BAD);
        }
        due(18, "nothing changes", x.below(3), 36);
        x.nights(1);
        due(18, "the hill that there is counts", x.light(1, 90), 1);

        // all that there is room for, and no more
        SpoonPassage r = new SpoonPassage();
        for (int b = 0; b < 4; b++) {
            r.branch(b, 0, 990);
            r.digger(0, 50, 9, b);
        }
        due(18, "all of it", r.light(1, 36), 15);
        due(18, "a quarter", r.light(9, 9), 1);
        due(18, "one more than there is room for", r.light(10, 37), NONE);

        // fewer who are lit dig more by this law
        SpoonPassage y = new SpoonPassage();
        y.digger(0, 0, 9, 0);
        y.digger(0, 0, 9, 0);
        Due.text(y, "dig (n<2)*50");
        due(18, "one alone", y.light(1, 50), 1);
        due(18, "two would dig nothing", y.behind(1, 2), 0);
    }

    private static void wax() {
        SpoonPassage x = new SpoonPassage();
        x.digger(1, 29, 50, 0);
        due(19, "none", x.wax(0, 30, 0), 0);
        due(19, "20 a night, 2 candles each", x.wax(0, 30, 20), 1);
        due(19, "two nights", x.wax(0, 30, 21), 3);
        due(19, "all thirty", x.wax(0, 30, 600), 59);
        due(19, "with none", x.wax(0, 30, 601), NONE);
        due(19, "no night", x.wax(0, 0, 1), NONE);
        due(19, "nothing changes", x.told(0, 2), 50);
        int[][] wrong = {{1, 0, 0}, {-1, 0, 0}, {0, -1, 0}, {0, 31, 0}, {0, 0, -1}, {0, 0, 10000}};
        for (int[] w : wrong) {
            due(19, "wrong", x.wax(w[0], w[1], w[2]), BAD);
        }
        x.nights(3);
        due(19, "earth that it has counts", x.wax(0, 30, 60), 0);
        due(19, "and one night more", x.wax(0, 30, 61), 1);
        SpoonPassage y = new SpoonPassage();
        y.digger(4, 10, 0, 0);
        y.digger(2, 12, 2, 0);
        y.rule(0, 0);
        due(19, "2 a night, 3 candles each", y.wax(0, 30, 60), 88);
    }

    private static void sentBecomes() {
        SpoonPassage x = new SpoonPassage();
        x.rule(0, 0);
        x.digger(0, 50, 3, 0);
        due(20, "of several the least", x.sent(0, 9, 0), 0);
        due(20, "earth", x.sent(0, 9, 1), 120);
        x.branch(0, 1, 20);
        x.branch(2, 1, 5);
        x.branch(3, 1, 5);
        due(20, "the softer rock", x.sent(0, 2, 0), 2);
        due(20, "earth", x.sent(0, 2, 1), 90);
        due(20, "it stays", x.told(0, 3), 0);
        int[][] wrong = {{1, 1, 0}, {-1, 1, 0}, {0, 0, 0}, {0, 61, 0}, {0, 1, 2}, {0, 1, -1}};
        for (int[] w : wrong) {
            due(20, "wrong", x.sent(w[0], w[1], w[2]), BAD);
        }
        due(20, "sixty", x.sent(0, 60, 1), 135);

        due(21, "for a night, of son and boy the least", x.becomes(0, 1, 0), 1);
        due(21, "earth", x.becomes(0, 1, 1), 31);
        due(21, "for three, the digger has light longest", x.becomes(0, 3, 0), 0);
        due(21, "earth", x.becomes(0, 3, 1), 90);
        due(21, "for long, the uncle burns nothing", x.becomes(0, 60, 0), 2);
        due(21, "earth", x.becomes(0, 60, 1), 900);
        due(21, "it stays", x.told(0, 0), 0);
        for (int[] w : wrong) {
            due(21, "wrong", x.becomes(w[0], w[1], w[2]), BAD);
        }
        SpoonPassage y = new SpoonPassage();
        y.digger(0, 0, 1, 0);
        due(21, "against the rock, son, boy, nun dig 1 each", y.becomes(0, 1, 0), 1);
        y.turns(0, 5);
        due(21, "whatever it is", y.becomes(0, 1, 1), 1);
        y.branch(3, 1, 0);
        y.set(0, 1, 9);
        y.turns(0, 0);
        due(20, "the one soft branch", y.sent(0, 1, 0), 3);
    }

    private static void like() {
        SpoonPassage x = new SpoonPassage();
        x.rule(0, 0);
        x.digger(0, 20, 99, 1);
        x.digger(0, 30, 99, 2);
        due(22, "missing", x.like(0, 0), NOTHING);
        due(22, "bad comes first", x.like(0, 2), BAD);
        due(22, "wrong", x.like(0, -1), BAD);
        due(22, "wrong", x.like(4, 0), BAD);
        due(22, "wrong", x.like(-1, 0), BAD);
        x.sheet(0, 1, 4);
        due(22, "all 0: of 0 and 3 the least", x.like(0, 0), 0);
        due(22, "no differences", x.like(0, 1), 0);
        int[] row = {0, 10, 20, 30};
        for (int k = 0; k < 4; k++) {
            x.mark(0, k, row[k] + 3);
        }
        due(22, "10 a night", x.like(0, 0), 1);
        due(22, "3 each", x.like(0, 1), 12);
        x.mark(0, 1, NONE);
        x.mark(0, 0, -5);
        due(22, "a place that is no number is left out", x.like(0, 1), 5 + 3 + 3);
        x.mark(0, 2, 40);
        x.mark(0, 3, 61);
        due(22, "20 a night", x.like(0, 0), 2);
        due(22, "together", x.like(0, 1), 5 + 1);
        x.sheet(0, 0, 0);
        due(22, "no place", x.like(0, 0), 0);
        due(22, "no place", x.like(0, 1), 0);
        due(22, "nothing changes", x.count(1), 0);
    }

    private static void feeFine() {
        SpoonPassage x = new SpoonPassage();
        x.digger(0, 30, 5, 0);
        x.digger(0, 0, 0, 1);
        x.nights(2);
        due(23, "met, by 1, 2, 3", x.below(0), 3);
        due(23, "without a text", x.fee(), 3);
        Due.text(x, "fee m*100+h");
        due(23, "by a text", x.fee(), 340);
        Due.text(x, "fee 0-9999*9999*9999");
        due(23, "ints wrap", x.fee(), -9999 * 9999 * 9999);
        due(24, "without a text", x.fine(0), 3);
        due(24, "none there", x.fine(2), BAD);
        due(24, "none there", x.fine(-1), BAD);
        Due.text(x, "fine f*10-c");
        due(24, "by a text", x.fine(0), 297);
        due(24, "of another", x.fine(1), 0);
    }

    private static void feedTrim() {
        SpoonPassage x = new SpoonPassage();
        for (int i = 1; i <= 8; i++) {
            due(25, "twelve more", x.feed(-1, 0, i), 12 * i);
        }
        due(25, "the ninth", x.feed(0, 0, 0), FULL);
        due(25, "stays", x.count(8), 96);
        due(26, "above", x.trim(97), BAD);
        due(26, "below", x.trim(-1), BAD);
        due(26, "all", x.trim(96), 96);
        due(26, "85", x.trim(85), 85);
        due(25, "one byte too many", x.feed(0, 0, 0), FULL);
        due(26, "84", x.trim(84), 84);
        due(25, "just as many", x.feed(0, 0, 0), 96);
        due(26, "none", x.trim(0), 0);
        due(26, "there are none", x.trim(1), BAD);
        due(25, "the highest byte first", x.feed(0x66656520, 0x31323334, 0x20202020), 12);
        due(27, "it is a text", x.text(), 0);
        due(23, "and gives", x.fee(), 1234);
        due(27, "it is used up", x.count(8), 0);
    }

    private static void gives(String text, int want) {
        SpoonPassage x = new SpoonPassage();
        x.digger(0, 7, 3, 0);
        due(27, text, Due.text(x, "fine " + text), 0);
        due(27, text + " gives", x.fine(0), want);
    }

    private static void text() {
        gives("f", 7);
        gives("c", 3);
        gives("10-4-3", 3);
        gives("100/7/2", 7);
        gives("0-7/2", -3);
        gives("(0-7)/2", -3);
        gives("5/0", 0);
        gives("5/(f-7)+1", 1);
        gives("2+3*4", 14);
        gives("(2+3)*4", 20);
        gives("2*3+4", 10);
        gives("f<c", 0);
        gives("f>c", 1);
        gives("f=7", 1);
        gives("f=c+4", 1);
        gives("1<2&2<1", 0);
        gives("1<2|2<1", 1);
        gives("1|0&0", 1);
        gives("(1|0)&0", 0);
        gives("5&6", 1);
        gives("0|6", 1);
        gives("5&0|3", 1);
        gives("0|0", 0);
        gives("0|1", 1);
        gives("1&1", 1);
        gives("1&0", 0);
        gives("f=c", 0);
        gives("f>f", 0);
        gives("f<f", 0);
        gives("c>f", 0);
        gives("c<f", 1);
        gives("!f", 0);
        gives("!0", 1);
        gives("!!9", 1);
        gives("!0+1", 2);
        gives("!(0+1)", 0);
        gives("!f=0", 1);
        gives("0=!f", 1);
        gives("  (  f  )  ", 7);
        gives("9999", 9999);
        gives("0007", 7);
        gives("(1<2)<3", 1);
        gives("1=1&2=2&3=3", 1);
        gives("0-(0-1)*(0-2)", -2);

        SpoonPassage x = new SpoonPassage();
        due(27, "no blank is needed by a sign", Due.text(x, "fine(f)"), 0);
        due(27, "nor by !", Due.text(x, "fine!f"), 1);
        due(27, "blanks at the ends", Due.text(x, "  dig f  "), 2);
        due(27, "all of the tape", Due.text(x, "dig " + "f+".repeat(45) + "f "), 3);
        due(27, "names of dig", Due.text(x, "dig f+r+a+n"), 4);

        // what dig gives is held within 0 and 99; its names are those of the branch then
        SpoonPassage y = new SpoonPassage();
        y.branch(1, 0, 60);
        y.branch(1, 2, 15);
        y.branch(1, 1, 8);
        y.digger(0, 20, 5, 1);
        y.digger(0, 21, 5, 1);
        y.digger(0, 22, 0, 1);
        y.digger(0, 23, 5, 0);
        Due.text(y, "dig f-r");
        due(27, "f, r", y.told(0, 5), 12);
        Due.text(y, "dig a");
        due(27, "a", y.told(1, 5), 45);
        Due.text(y, "dig n");
        due(27, "n: two are lit", y.told(2, 5), 2);
        due(27, "n: elsewhere", y.told(3, 5), 1);
        Due.text(y, "dig 100");
        due(27, "99 at most", y.told(0, 5), 99);
        Due.text(y, "dig 0-1");
        due(27, "0 at least", y.told(0, 5), 0);
        y.turns(0, 1);
        due(27, "a son by it", y.told(0, 5), 1);
        y.turns(0, 5);
        due(27, "a nun whatever it gives", y.told(0, 5), 1);
        y.turns(0, 0);
        // the second digs when the first has been 45 further
        Due.text(y, "dig a");
        y.nights(1);
        due(27, "in a night", y.told(0, 4), 45);
        due(27, "by what is then", y.told(1, 4), 90);
    }

    private static void fault(String text, int place) {
        SpoonPassage x = new SpoonPassage();
        due(27, "fault of '" + text + "'", Due.text(x, text), -100 - place);
        due(27, "the tape is used up", x.count(8), 0);
        due(27, "no text came", x.count(6), 0);
    }

    private static void faults() {
        fault("", 0);
        fault("   ", 3);
        fault("dig", 3);
        fault("dig  ", 5);
        fault("digs f", 0);
        fault(" di f", 1);
        fault("digf", 0);
        fault("digz f", 0);
        fault("diga f", 0);
        fault("bee m", 0);
        fault("dig f0", 5);
        fault("dig 9{", 5);
        fault("dig 9`", 5);
        fault("(f)", 0);
        fault("5", 0);
        fault("Dig f", 0);
        fault("dig5", 3);
        fault("dig 5f", 5);
        fault("dig f5", 5);
        fault("dig f f", 6);
        fault("dig f 5", 6);
        fault("dig ff", 4);
        fault("dig c", 4);
        fault("dig m", 4);
        fault("fee f", 4);
        fault("fine r", 5);
        fault("fine m", 5);
        fault("dig 12345", 4);
        fault("dig 00001", 4);
        fault("dig f+", 6);
        fault("dig f + ", 8);
        fault("dig +f", 4);
        fault("dig -f", 4);
        fault("dig f+*r", 6);
        fault("dig f)", 5);
        fault("dig (f", 6);
        fault("dig (f r)", 7);
        fault("dig ()", 5);
        fault("dig f<r<a", 7);
        fault("dig (f<r<a)", 8);
        fault("dig f=r>1", 7);
        fault("dig f<r+1=2", 9);
        fault("dig f<=r", 6);
        fault("dig f!", 5);
        fault("dig f!=r", 5);
        fault("dig !", 5);
        fault("dig f\tr", 5);
        fault("dig\n5", 3);
        fault("dig \u00e9", 4);
        fault("dig f" + (char) 0, 5);
        fault("dig dig", 4);
        fault("fee h%2", 5);
        fault("dig f&&r", 6);
        fault("dig f(r)", 5);
    }

    private static void deepTexts() {
        SpoonPassage x = new SpoonPassage();
        x.digger(0, 7, 3, 0);
        due(27, "eight open", Due.text(x, "fine " + "(".repeat(8) + "f" + ")".repeat(8)), 0);
        due(27, "gives", x.fine(0), 7);
        due(27, "the ninth", Due.text(x, "fine " + "(".repeat(9) + "f" + ")".repeat(9)), -100 - 13);
        due(27, "eight not", Due.text(x, "fine " + "!".repeat(8) + "f"), 1);
        due(27, "gives", x.fine(0), 1);
        due(27, "the ninth", Due.text(x, "fine " + "!".repeat(9) + "f"), -100 - 13);
        due(27, "each by itself", Due.text(x, "fine " + "!(".repeat(8) + "c" + ")".repeat(8)), 2);
        due(27, "gives", x.fine(0), 1);
        due(27, "the ninth within others", Due.text(x, "fine " + "!(".repeat(8) + "!c" + ")".repeat(8)), -100 - 21);
        due(27, "the ninth within others", Due.text(x, "fine " + "!(".repeat(8) + "(c)" + ")".repeat(8)), -100 - 21);
        due(27, "one behind the other", Due.text(x, "fine (f)" + "+(f)".repeat(9)), 3);
        due(27, "gives", x.fine(0), 70);
        due(27, "one behind the other", Due.text(x, "fine !0" + "+!0".repeat(9)), 4);
        due(27, "gives", x.fine(0), 10);
        due(27, "closed ones count no more", Due.text(x, "fine ((((((((f))))))))+((((((((f))))))))"), 5);
        due(27, "gives", x.fine(0), 14);
        due(27, "a ninth behind them", Due.text(x, "fine (f)*(((((((((f"), -100 - 17);
    }

    private static void texts() {
        SpoonPassage x = new SpoonPassage();
        String[] told = {"dig f", "fee m", "fine 1+f*(c-12)/!3", "dig f+r+a+n+1"};
        for (int i = 0; i < told.length; i++) {
            due(27, told[i], Due.text(x, told[i]), i);
        }
        int[] keys = {0, 1, 2, 0};
        int[] many = {1, 1, 5, 5};
        for (int i = 0; i < 4; i++) {
            due(28, "key", x.textTold(i, 0), keys[i]);
            due(28, "numbers and names", x.textTold(i, 1), many[i]);
        }
        int[][] wrong = {{-1, 0}, {4, 0}, {0, 2}, {0, -1}, {LEAST, 0}};
        for (int[] w : wrong) {
            due(28, "wrong", x.textTold(w[0], w[1]), BAD);
        }
        due(29, "the last counts", x.why(0), 3);
        due(29, "fee", x.why(1), 1);
        due(29, "fine", x.why(2), 2);
        due(29, "wrong", x.why(3), BAD);
        due(29, "wrong", x.why(-1), BAD);
        due(29, "none", new SpoonPassage().why(1), NONE);
        for (int i = 4; i < 14; i++) {
            due(27, "one more", Due.text(x, "fee " + i), i);
        }
        due(27, "a fifteenth", Due.text(x, "fee 1"), FULL);
        due(27, "the tape is used up", x.count(8), 0);
        due(27, "the fault comes first", Due.text(x, "fee f"), -104);
        due(27, "fourteen", x.count(6), 14);
        due(29, "the last that came", x.why(1), 13);
        due(23, "gives", x.fee(), 13);
    }

    private static void sheetMark() {
        SpoonPassage x = new SpoonPassage();
        due(30, "shorts", x.sheet(0, 0, 24), 24);
        due(30, "floats", x.sheet(1, 1, 3), 3);
        due(30, "no place", x.sheet(2, 0, 0), 0);
        due(30, "missing, n any", x.sheet(3, -1, -7), 0);
        due(30, "missing, n any", x.sheet(3, -1, MOST), 0);
        int[][] wrong = {{-1, 0, 1}, {4, 0, 1}, {0, -2, 1}, {0, 2, 1}, {0, 0, 25}, {4, 0, -1}, {0, 2, -1}, {4, -1, 0}};
        for (int[] w : wrong) {
            due(30, "wrong", x.sheet(w[0], w[1], w[2]), BAD);
        }
        due(30, "below 0", x.sheet(0, 0, -1), SIZE);
        due(30, "below 0", x.sheet(0, 1, LEAST), SIZE);
        due(31, "the last of 24", x.mark(0, 23, 5), 1);
        due(31, "no sheet", x.mark(4, 0, 0), BAD);
        due(31, "no sheet", x.mark(-1, 0, 0), BAD);
        due(31, "missing comes ahead of the place", x.mark(3, -1, NONE), NOTHING);
        due(31, "no such place", x.mark(0, 24, NONE), INDEX);
        due(31, "no such place", x.mark(0, -1, 0), INDEX);
        due(31, "no such place", x.mark(2, 0, 0), INDEX);
        due(31, "no such place", x.mark(1, 3, 100000), INDEX);
        due(31, "no number in shorts", x.mark(0, 0, NONE), KIND);
        due(31, "the lowest 16 bits", x.mark(0, 0, 0x12348001), 1);
        due(31, "of any int", x.mark(0, 1, BAD), 1);
        due(31, "floats", x.mark(1, 0, 99999), 1);
        due(31, "floats", x.mark(1, 1, -99999), 1);
        due(31, "too much", x.mark(1, 2, 100000), BAD);
        due(31, "too little", x.mark(1, 2, -100000), BAD);
        due(31, "no number", x.mark(1, 2, NONE), 1);
        x.lay(0, 2, 0);
        x.lay(1, 2, 1);
        due(31, "it is a short", x.item(0, 0), (short) 0x8001);
        due(31, "it is a short", x.item(0, 1), (short) BAD);
        due(31, "stays", x.item(0, 2), 0);
        due(31, "marked", x.item(0, 23), 5);
        due(31, "float", x.item(1, 0), 99999);
        due(31, "float", x.item(1, 1), -99999);
        due(31, "no number", x.item(1, 2), KIND);
        due(30, "anew", x.sheet(0, 0, 2), 2);
        x.lay(0, 2, 0);
        due(30, "all 0", x.item(0, 0), 0);
        due(30, "missing again", x.sheet(0, -1, 5), 0);
        due(30, "is", x.pour(0), NOTHING);
    }

    private static void pourReads() {
        SpoonPassage x = new SpoonPassage();
        for (int i = 0; i < 4; i++) {
            x.digger(0, 0, 10 + i, i);
        }
        due(32, "missing", x.pour(0), NOTHING);
        due(32, "no sheet", x.pour(4), BAD);
        due(32, "no sheet", x.pour(-1), BAD);
        x.sheet(0, 1, 3);
        x.mark(0, 0, 500);
        x.mark(0, 1, NONE);
        x.mark(0, 2, 12);
        due(32, "one is otherwise", x.pour(0), 1);
        int[] candles = {99, 11, 12, 13};
        for (int i = 0; i < 4; i++) {
            due(32, "candles " + i, x.told(i, 2), candles[i]);
        }
        x.mark(0, 0, -3);
        x.mark(0, 1, 0);
        due(32, "two are", x.pour(0), 2);
        due(32, "0 at least", x.told(0, 2), 0);
        due(32, "0", x.told(1, 2), 0);
        x.sheet(0, 0, 24);
        due(32, "two more, beyond them nobody", x.pour(0), 2);

        due(33, "missing", x.reads(1), NOTHING);
        due(33, "no sheet", x.reads(4), BAD);
        due(33, "no sheet", x.reads(-1), BAD);
        x.sheet(1, 1, 6);
        due(33, "1 is in branch 1", x.reads(1), 1);
        for (int i = 0; i < 4; i++) {
            x.mark(1, i, i);
        }
        due(33, "there is no fifth", x.reads(1), 4);
        x.mark(1, 4, NONE);
        due(33, "nor a sixth", x.reads(1), 5);
        x.mark(1, 5, NONE);
        due(33, "there is none", x.reads(1), NONE);
        x.mark(1, 2, NONE);
        x.sends(2, 0);
        due(33, "no number is passed over", x.reads(1), NONE);
        x.sends(3, 0);
        due(33, "the fourth is not", x.reads(1), 3);
        x.sheet(1, 0, 0);
        due(33, "no place", x.reads(1), NONE);
    }

    private static void row(SpoonPassage x, int promise, int sheet, int... want) {
        x.lay(4, 2, sheet);
        for (int i = 0; i < want.length; i++) {
            due(promise, "place " + i, x.item(4, i), want[i]);
        }
        due(promise, "no more", x.item(4, want.length), INDEX);
    }

    private static void copy() {
        SpoonPassage x = new SpoonPassage();
        x.sheet(0, 0, 5);
        x.sheet(1, 0, 3);
        x.sheet(2, 1, 3);
        for (int i = 0; i < 5; i++) {
            x.mark(0, i, i + 1);
        }
        due(34, "two", x.copy(0, 3, 1, 1, 2), 2);
        row(x, 34, 1, 0, 4, 5);
        due(34, "within the same, upwards", x.copy(0, 0, 0, 1, 4), 4);
        row(x, 34, 0, 1, 1, 2, 3, 4);
        due(34, "downwards", x.copy(0, 1, 0, 0, 4), 4);
        row(x, 34, 0, 1, 2, 3, 4, 4);
        due(34, "none", x.copy(0, 5, 1, 3, 0), 0);
        due(34, "none beyond the end", x.copy(0, 6, 1, 3, 0), INDEX);
        due(34, "none beyond the end", x.copy(0, 5, 1, 4, 0), INDEX);
        int[][] off = {{-1, 0, 1}, {0, -1, 1}, {0, 0, 4}, {3, 0, 3}, {0, 2, 2}, {0, 0, -1}, {0, 0, LEAST}, {MOST, 0, MOST},
            {0, MOST, 1}, {1, 1, MOST}, {LEAST, LEAST, LEAST}};
        for (int[] o : off) {
            due(34, "no such place", x.copy(0, o[0], 1, o[1], o[2]), INDEX);
        }
        due(34, "not of one sort", x.copy(0, 0, 2, 0, 1), KIND);
        due(34, "not of one sort, ahead of the place", x.copy(2, 9, 0, -1, 1), KIND);
        due(34, "missing", x.copy(3, 0, 0, 0, 1), NOTHING);
        due(34, "missing, ahead of all but bad", x.copy(2, -1, 3, 0, -1), NOTHING);
        due(34, "no sheet", x.copy(4, 0, 3, 0, 1), BAD);
        due(34, "no sheet", x.copy(3, 0, -1, 0, 1), BAD);
        row(x, 34, 0, 1, 2, 3, 4, 4);
        x.mark(2, 0, NONE);
        due(34, "no number comes along", x.copy(2, 0, 2, 2, 1), 1);
        x.lay(4, 2, 2);
        due(34, "is none", x.item(4, 2), KIND);
    }

    private static void slots() {
        SpoonPassage x = new SpoonPassage();
        x.digger(4, 30, 20, 0);
        x.sheet(0, 0, 2);
        due(35, "a digger", x.lay(0, 1, 0), 0);
        due(35, "a sheet", x.lay(0, 2, 0), 1);
        due(35, "a number", x.lay(0, 3, LEAST), 2);
        due(35, "nothing", x.lay(0, 0, 0), 3);
        due(35, "nothing, k any", x.lay(0, 0, LEAST), 0);
        int[][] wrong = {{-1, 0, 0}, {5, 0, 0}, {0, -1, 0}, {0, 4, 0}, {0, 1, 1}, {0, 1, -1}, {0, 2, 4}, {0, 2, -1}, {5, 2, 1}};
        for (int[] w : wrong) {
            due(35, "wrong", x.lay(w[0], w[1], w[2]), BAD);
        }
        due(35, "missing", x.lay(0, 2, 1), NOTHING);
        due(35, "it holds nothing yet", x.lay(0, 0, 0), 0);

        x.lay(1, 1, 0);
        x.lay(2, 2, 0);
        x.lay(3, 3, -17);
        x.set(0, 2, 99);
        x.turns(0, 0);
        due(36, "as it was then: half of 79", x.ask(1, 4), 39);
        due(36, "taken for an uncle it is worth the same", x.ask(1, 2), 39);
        due(36, "for a digger too", x.ask(1, 0), 39);
        due(36, "it is no son", x.ask(1, 1), KIND);
        due(36, "no boy", x.ask(1, 3), KIND);
        due(36, "no nun", x.ask(1, 5), KIND);
        due(36, "a sheet", x.ask(2, 0), KIND);
        due(36, "a number", x.ask(3, 0), KIND);
        due(36, "nothing", x.ask(0, 0), NOTHING);
        due(36, "no kind comes first", x.ask(0, 6), BAD);
        due(36, "no kind", x.ask(1, -1), BAD);
        due(36, "no slot", x.ask(5, 0), BAD);
        due(36, "no slot", x.ask(-1, 0), BAD);
        x.lay(1, 1, 0);
        due(36, "as it is now", x.ask(1, 0), 99);
        due(36, "no lodger now", x.ask(1, 4), KIND);

        x.mark(0, 1, 7);
        due(37, "a row of its own", x.item(2, 1), 0);
        x.sheet(0, -1, 0);
        due(37, "though that is missing", x.item(2, 0), 0);
        due(37, "no such place", x.item(2, 2), INDEX);
        due(37, "no such place", x.item(2, -1), INDEX);
        due(37, "a digger", x.item(1, 0), KIND);
        due(37, "a number, ahead of the place", x.item(3, -1), KIND);
        due(37, "nothing", x.item(0, 0), NOTHING);
        due(37, "no slot", x.item(5, 0), BAD);
        due(37, "no slot", x.item(-1, 0), BAD);

        due(38, "rest", x.rest(3, 5), -2);
        due(38, "rest", x.rest(3, -5), -2);
        due(38, "rest", x.rest(3, 18), -17);
        due(38, "by 0", x.rest(3, 0), NO);
        due(38, "a digger, ahead of 0", x.rest(1, 0), KIND);
        due(38, "a sheet", x.rest(2, 1), KIND);
        due(38, "nothing", x.rest(0, 0), NOTHING);
        due(38, "no slot", x.rest(5, 0), BAD);
        due(38, "no slot", x.rest(-1, 0), BAD);
        x.lay(3, 3, LEAST);
        due(38, "the least by -1", x.rest(3, -1), 0);
        x.lay(4, 3, 0);
        due(38, "none by one", x.rest(4, 9), 0);
    }

    private static int check(SpoonPassage x, int n, int... rows) {
        for (int v : rows) {
            x.tell(v);
        }
        return x.check(n);
    }

    private static void tellCheck() {
        SpoonPassage x = new SpoonPassage();
        for (int i = 1; i <= 60; i++) {
            due(39, "waits", x.tell(i * LEAST), i);
        }
        due(39, "the 61st", x.tell(0), FULL);
        due(39, "60", x.count(7), 60);
        due(40, "no image", x.check(1), NO);
        due(40, "none waits then", x.count(7), 0);
        x.tell(1);
        due(40, "bad comes first", x.check(0), BAD);
        due(40, "none waits then", x.count(7), 0);
        x.tell(1);
        due(40, "too many", x.check(31), BAD);
        due(40, "none waits then", x.count(7), 0);

        x.branch(3, 0, 2);
        x.branch(1, 0, 500);
        x.digger(0, 30, 2, 0);
        x.digger(0, 0, 0, 3);
        x.keep();
        // the night 1: 20 are dug, the other is met in 3; 2: 20 more; 3: dark
        due(40, "told as it is", check(x, 3, 1, 522, 1, 542, 1, 542), 0);
        due(40, "the first is not", check(x, 3, 0, 522, 1, 542, 1, 542), 1);
        due(40, "the second is not", check(x, 3, 1, 521, 1, 542, 1, 542), 2);
        due(40, "the last is not", check(x, 3, 1, 522, 1, 542, 1, 541), 6);
        due(40, "one is missing", check(x, 3, 1, 522, 1, 542, 1), 6);
        due(40, "two are", check(x, 3, 1, 522, 1, 542), 5);
        due(40, "all are", check(x, 3), 1);
        due(40, "one too many", check(x, 3, 1, 522, 1, 542, 1, 542, 1), 7);
        due(40, "two too many", check(x, 3, 1, 522, 1, 542, 1, 542, 1, 542), 7);
        x.nights(7);
        x.set(0, 2, 99);
        due(40, "by the image", check(x, 1, 1, 522), 0);
        due(40, "nothing changes", x.count(1), 7);
        x.keep();
        due(40, "by the image that was kept last", check(x, 1, 1, 522), 2);
        due(40, "which goes on", check(x, 2, 1, 562, 1, 582), 0);
    }

    private static void keepBack() {
        SpoonPassage x = new SpoonPassage();
        due(42, "there is none", x.back(), NO);
        x.digger(1, 30, 40, 2);
        x.digger(5, 31, 41, 3);
        x.rule(0, 4);
        x.rule(1, 30);
        Due.text(x, "dig f-r+3");
        x.nights(6);
        int[] was = all(x);
        due(41, "keeps", x.keep(), 2);
        for (int again = 0; again < 2; again++) {
            x.sheet(0, 0, 3);
            x.mark(0, 0, 5);
            x.lay(0, 3, 8);
            x.tell(1);
            x.feed(0, 0, 0);
            x.deal(3);
            x.turns(0, 4);
            x.set(1, 1, 3);
            x.sends(0, 0);
            x.branch(1, 0, 77);
            x.rule(0, 9);
            x.rule(1, 90);
            x.nights(20);
            due(42, "is back", x.back(), 2);
            int[] is = all(x);
            for (int i = 0; i < was.length; i++) {
                due(42, "as it was " + i, is[i], was[i]);
            }
            due(42, "but numbers wait", x.count(7), again + 1);
            due(42, "and the tape is there", x.count(8), 12 * again + 12);
            due(42, "and the slot", x.rest(0, 5), 3);
            due(42, "and the sheet", x.reads(0), 0);
            due(42, "the third is nobody", x.told(2, 0), BAD);
        }
        due(42, "a text behind the image", Due.text(x, "dig 50"), 1);
        due(42, "counts", x.told(0, 5), 51);
        x.back();
        due(42, "is gone", x.count(6), 1);
        due(42, "counts no more", x.why(0), 0);
        due(42, "nor is it told of", x.textTold(1, 0), BAD);
        due(42, "another takes its place", Due.text(x, "fee 9"), 1);
        due(42, "the first is as it was", x.textTold(0, 1), 3);
        due(42, "of the other key", x.textTold(1, 0), 1);
        due(43, "wrong", x.count(10), BAD);
        x.digger(0, 0, 0, 0);
        due(41, "keeps anew", x.keep(), 3);
        x.digger(0, 0, 0, 0);
        due(42, "back to the last", x.back(), 3);
        SpoonPassage y = new SpoonPassage();
        due(41, "of nobody", y.keep(), 0);
        y.deal(4);
        y.nights(5);
        due(42, "of nobody", y.back(), 0);
        y.digger(0, 0, 0, 0);
        due(42, "who comes has no earth", y.told(0, 4), 0);
    }

    /** All that an image keeps, as far as it can be asked. */
    private static int[] all(SpoonPassage x) {
        int[] row = new int[80];
        int n = 0;
        for (int what = 0; what < 10; what++) {
            row[n++] = what == 7 || what == 8 ? 0 : x.count(what);
        }
        for (int b = 0; b < 4; b++) {
            for (int what = 0; what < 6; what++) {
                row[n++] = x.branchOf(b, what);
            }
        }
        for (int d = 0; d < 4; d++) {
            for (int what = 0; what < 8; what++) {
                row[n++] = x.told(d, what);
            }
        }
        for (int key = 0; key < 3; key++) {
            row[n++] = x.why(key);
        }
        return row;
    }

    private static void count() {
        SpoonPassage x = new SpoonPassage();
        x.rule(0, 8);
        x.rule(1, 100);
        x.digger(0, 0, 0, 0);
        x.nights(3);
        Due.text(x, "fee 1");
        Due.text(x, "fee 2");
        x.tell(4);
        x.feed(0, 0, 0);
        x.seed(-9);
        int[] due = {1, 3, 8, 100, 12, 3, 2, 1, 12, -9};
        for (int i = 0; i < due.length; i++) {
            due(43, "count " + i, x.count(i), due[i]);
        }
        due(43, "wrong", x.count(10), BAD);
        due(43, "wrong", x.count(-1), BAD);
        due(43, "wrong", x.count(MOST), BAD);
    }
}
