/** The edges of promises 13 and 14: nights, and what is below. */
public final class NightsEdgesTest {
    private static final int BAD = Due.BAD;
    private static final int LEAST = Edges.LEAST, MOST = Edges.MOST;

    private static void due(String what, int got, int want) {
        Edges.due(what, got, want);
    }

    public static void main(String[] args) {
        Edges.run(NightsEdgesTest.class);
    }

    private static int drawn(int z) {
        return z * 1103515245 + 12345;
    }

    // ---- 13: how many

    static void promise13NIs1To100() {
        SpoonPassage x = Scenes.one(5, 0, 99);
        due("1", x.nights(1), 1);
        due("the night", x.count(1), 1);
        x.set(0, 2, 99);
        due("100, of which 50 have light", x.nights(100), 50);
        due("the night", x.count(1), 101);
        Edges.refuses(BAD, Scenes::rich, (y, v) -> y.nights(v), 0, -1, 101, LEAST, MOST);
    }

    private static SpoonPassage lastNights(int night) {
        SpoonPassage x = Scenes.atNight(Scenes.still(), night);
        x.digger(5, 0, 99, 0);
        x.seed(4);
        return x;
    }

    static void promise13UpToTheNight9999() {
        SpoonPassage x = lastNights(9900);
        due("99 are left, of which 50 have light", x.nights(99), 50);
        due("the night", x.count(1), 9999);
    }

    static void promise13NoMoreThanUpTo9999() {
        SpoonPassage x = lastNights(9997);
        due("two are left", x.nights(3), 2);
        due("the night", x.count(1), 9999);
        due("z, drawn twice", x.count(9), drawn(drawn(4)));
        due("candles, burnt twice", x.told(0, 2), 95);
    }

    static void promise13TheLastNight() {
        SpoonPassage x = lastNights(9998);
        due("it passes", x.nights(1), 1);
        due("the night", x.count(1), 9999);
    }

    static void promise13NoNightBehind9999() {
        SpoonPassage x = lastNights(9999);
        due("none", x.nights(1), 0);
        due("none", x.nights(100), 0);
        due("the night", x.count(1), 9999);
        due("z", x.count(9), 4);
        due("candles", x.told(0, 2), 99);
        due("still refused", x.nights(101), BAD);
    }

    static void promise13ByHowMuchHillIsMore() {
        SpoonPassage x = Scenes.one(0, 30, 9);
        x.digger(5, 0, 9, 1);
        due("31", x.nights(1), 31);
        due("31 again, not 62", x.nights(1), 31);
        due("hill", x.below(2), 62);
        x.set(0, 2, 0);
        x.set(1, 2, 0);
        due("nobody has light", x.nights(1), 0);
    }

    // ---- 13: (1) digging

    static void promise13OnlyThoseWhoAreLitDig() {
        SpoonPassage x = Scenes.one(0, 30, 0);
        due("0 candles", x.nights(1), 0);
        x.set(0, 2, 1);
        due("1 candle", x.nights(1), 30);
        due("then it is out", x.nights(1), 0);
    }

    private static SpoonPassage nearTheEnd(int dug, int force) {
        SpoonPassage x = Scenes.one(0, force, 9);
        x.branch(0, 0, dug);
        return x;
    }

    static void promise13DugIs999AtMost() {
        int[][] rows = {{997, 2, 999}, {997, 1, 998}, {997, 3, 999}, {998, 99, 999}, {999, 50, 999}, {900, 99, 999}, {899, 99, 998}};
        for (int[] r : rows) {
            SpoonPassage x = nearTheEnd(r[0], r[1]);
            due("hill from " + r[0] + " by " + r[1], x.nights(1), r[2] - r[0]);
            due("dug", x.branchOf(0, 0), r[2]);
        }
    }

    static void promise13EarthIsMoreByAsMuchAsDugIs() {
        SpoonPassage x = nearTheEnd(990, 50);
        x.nights(1);
        due("not by what it digs", x.told(0, 4), 9);
        x.nights(1);
        due("no more", x.told(0, 4), 9);
        due("but it burns", x.told(0, 2), 7);
    }

    static void promise13EarthIs9999AtMost() {
        int[][] rows = {{9998, 1, 9999}, {9998, 2, 9999}, {9997, 1, 9998}, {9999, 5, 9999}, {9900, 99, 9999}, {9901, 99, 9999}};
        for (int[] r : rows) {
            SpoonPassage x = Scenes.withEarth(r[0]);
            x.branch(0, 0, 100);
            x.set(0, 1, r[1]);
            due("hill from " + r[0] + " by " + r[1], x.nights(1), r[2] - r[0]);
            due("earth", x.told(0, 4), r[2]);
            due("dug is more all the same", x.branchOf(0, 0), 100 + r[1]);
        }
    }

    static void promise13HillIsMoreThan9999() {
        SpoonPassage x = Scenes.withEarth(9999);
        x.digger(0, 50, 9, 3);
        due("of another", x.nights(1), 40);
        due("hill", x.below(2), 10039);
    }

    static void promise13CandlesAre0AtLeast() {
        int[] burns = {1, 2, 0, 2, 3, 2};
        for (int kind = 0; kind < 6; kind++) {
            for (int candles = 0; candles <= 4; candles++) {
                SpoonPassage x = Scenes.one(kind, 1, candles);
                x.nights(1);
                due("kind " + kind + " with " + candles, x.told(0, 2), Math.max(0, candles - burns[kind]));
            }
        }
    }

    private static SpoonPassage boyAt(int ahead) {
        SpoonPassage x = Scenes.one(3, 49, 9);
        x.branch(0, 0, ahead);
        return x;
    }

    static void promise13DigsAndBurnsAsTheyAreAheadOfThis() {
        SpoonPassage x = boyAt(40);
        due("he digs all, and comes to be far", x.nights(1), 50);
        due("and burns", x.told(0, 2), 7);
        due("the night behind it he digs half", x.nights(1), 25);
        due("and burns nothing", x.told(0, 2), 7);
        SpoonPassage y = boyAt(41);
        due("far already", y.nights(1), 25);
        due("he burns nothing", y.told(0, 2), 9);
    }

    static void promise13DiggersByNumbers() {
        SpoonPassage x = nearTheEnd(990, 6);
        x.digger(0, 6, 9, 0);
        x.digger(0, 6, 9, 0);
        x.nights(1);
        due("the first", x.told(0, 4), 6);
        due("the second", x.told(1, 4), 3);
        due("the third", x.told(2, 4), 0);
    }

    static void promise13AnUncleWhoseLightWentOutThisNight() {
        // the son's candle lasts, the lodgers' go out one behind the other
        SpoonPassage x = Scenes.one(4, 20, 3);
        x.digger(4, 20, 3, 0);
        x.nights(1);
        due("the first has the second beside it", x.told(0, 4), 12);
        due("for the second the first is out", x.told(1, 4), 10);
    }

    static void promise13HowManyAreLitInThisNight() {
        SpoonPassage x = Scenes.one(0, 0, 1);
        x.digger(0, 0, 9, 0);
        x.digger(0, 0, 9, 1);
        Due.text(x, "dig n*10");
        x.nights(1);
        due("two", x.told(0, 4), 20);
        due("one, when the first is out", x.told(1, 4), 10);
        due("one elsewhere", x.told(2, 4), 10);
    }

    // ---- 13: (2) warders

    private static SpoonPassage followed(int dug, int warder, int step) {
        SpoonPassage x = new SpoonPassage();
        x.rule(0, step);
        x.branch(0, 0, dug);
        x.branch(0, 2, warder);
        x.branch(1, 0, 900);
        x.digger(0, 0, 0, 0);
        x.nights(1);
        return x;
    }

    static void promise13WarderIsMoreByStepButNotAboveDug() {
        due("short of it", followed(50, 46, 3).branchOf(0, 2), 49);
        due("just at it", followed(50, 47, 3).branchOf(0, 2), 50);
        due("not above", followed(50, 48, 3).branchOf(0, 2), 50);
        due("by 99", followed(999, 900, 99).branchOf(0, 2), 999);
        due("by 0", followed(50, 20, 0).branchOf(0, 2), 20);
        due("is there", followed(50, 50, 3).branchOf(0, 2), 50);
        due("all the way", followed(999, 999, 99).branchOf(0, 2), 999);
    }

    private static void met(String what, SpoonPassage x, int want) {
        due(what + ", met", x.below(0), want);
        due(what + ", in", x.told(0, 3), want);
    }

    static void promise13MetIfHeIsAtDugThen() {
        met("one yard short", followed(50, 46, 3), 0);
        met("just at it", followed(50, 47, 3), 1);
        met("held at it", followed(50, 49, 3), 1);
        met("by 0, one short", followed(50, 49, 0), 0);
        met("by 0, at it", followed(50, 50, 0), 1);
        met("nothing is dug", followed(0, 0, 0), 1);
    }

    static void promise13DugComesAheadOfTheWarder() {
        SpoonPassage x = Scenes.one(0, 1, 9);
        x.rule(0, 1);
        x.branch(0, 2, 1);
        x.branch(1, 0, 900);
        x.nights(1);
        due("it digs away from him, and he gets up", x.below(0), 1);
        SpoonPassage y = Scenes.one(0, 2, 9);
        y.rule(0, 1);
        y.branch(0, 2, 1);
        y.nights(1);
        due("by one yard he is behind", y.below(0), 0);
        due("he", y.branchOf(0, 2), 2);
    }

    static void promise13NobodyIsMetWhereThereIsNobody() {
        SpoonPassage x = new SpoonPassage();
        x.nights(1);
        due("no diggers", x.below(0), 0);
        x.branch(1, 0, 900);
        x.digger(0, 0, 0, 1);
        x.nights(1);
        due("elsewhere", x.below(0), 0);
    }

    static void promise13MetIs1MoreForAllOfThem() {
        SpoonPassage x = new SpoonPassage();
        x.branch(1, 0, 900);
        for (int i = 0; i < 10; i++) {
            x.digger(i % 6, 0, 0, 0);
        }
        x.nights(1);
        due("met", x.below(0), 1);
        due("nobody is left", x.branchOf(0, 4), 0);
        due("all are in the next", x.branchOf(1, 4), 1023);
    }

    static void promise13ThoseWhoCameInThisNightToo() {
        SpoonPassage x = new SpoonPassage();
        x.branch(2, 0, 900);
        x.digger(0, 0, 0, 0);
        x.nights(1);
        due("met in 0 and in 1", x.below(0), 2);
        due("in 2", x.told(0, 3), 2);
    }

    static void promise13Behind3Comes0() {
        SpoonPassage x = new SpoonPassage();
        x.digger(0, 0, 0, 3);
        x.nights(1);
        due("in 0, where the warder was ahead of it", x.told(0, 3), 0);
        due("met once", x.below(0), 1);
        x.nights(1);
        due("round by all", x.told(0, 3), 0);
        due("met four times more", x.below(0), 5);
    }

    // ---- 13: (3) rock

    private static int restOf(int z) {
        return (drawn(z) >>> 8) % 100;
    }

    private static SpoonPassage falling(int seed, int fall) {
        SpoonPassage x = new SpoonPassage();
        x.seed(seed);
        x.rule(1, fall);
        x.nights(1);
        return x;
    }

    static void promise13RockFallsIfTheRestIsBelowFall() {
        boolean[] seen = new boolean[100];
        for (int seed = -500; seed < 500; seed++) {
            int rest = restOf(seed);
            if (seen[rest]) {
                continue;
            }
            seen[rest] = true;
            due("rest " + rest + " by as much", falling(seed, rest).below(1), 0);
            due("rest " + rest + " by 1 more", falling(seed, rest + 1).below(1), 1);
        }
        for (int rest = 0; rest < 100; rest++) {
            due("rest " + rest + " was seen", seen[rest] ? 1 : 0, 1);
        }
    }

    static void promise13FallOf0And100() {
        SpoonPassage x = new SpoonPassage();
        x.nights(100);
        due("never", x.below(1), 0);
        x.rule(1, 100);
        x.nights(100);
        due("always", x.below(1), 100);
    }

    static void promise13OneDrawOrThree() {
        for (int seed : new int[] {1, 2, LEAST, MOST, -7}) {
            int z = drawn(seed);
            due("no rock falls", falling(seed, 0).count(9), z);
            due("rock falls", falling(seed, 100).count(9), drawn(drawn(z)));
        }
    }

    static void promise13RockOfABranch() {
        boolean[] branches = new boolean[4];
        boolean[] ends = new boolean[2];
        for (int seed = -400; seed < 400; seed++) {
            int branch = (drawn(drawn(seed)) >>> 8) % 4;
            int rock = (drawn(drawn(drawn(seed))) >>> 8) % 100;
            branches[branch] = true;
            ends[0] |= rock == 0;
            ends[1] |= rock == 99;
            SpoonPassage x = falling(seed, 100);
            for (int b = 0; b < 4; b++) {
                due("seed " + seed + ", rock " + b, x.branchOf(b, 1), b == branch ? rock : 10);
            }
        }
        due("all were seen", branches[0] && branches[1] && branches[2] && branches[3] && ends[0] && ends[1] ? 1 : 0, 1);
    }

    static void promise13RockFallsBehindTheDigging() {
        SpoonPassage x = new SpoonPassage();
        x.rule(1, 100);
        for (int b = 0; b < 4; b++) {
            x.branch(b, 0, 500);
            x.digger(0, 30, 9, b);
        }
        due("by the rock that was", x.nights(1), 80);
    }

    // ---- 14

    static void promise14WhatIs0To5() {
        SpoonPassage x = new SpoonPassage();
        x.rule(1, 100);
        x.branch(3, 0, 500);
        x.digger(0, 30, 9, 3);
        x.digger(0, 30, 8, 0);
        x.digger(0, 0, 0, 2);
        x.seed(1);
        x.nights(1);
        // the third is met in 2
        int[] is = {1, 1, 40, 15, 8 + 1, 3};
        for (int what = 0; what < 6; what++) {
            due("what " + what, x.below(what), is[what]);
            int w = what;
            Edges.changesNothing(Scenes::rich, y -> y.below(w));
        }
        Edges.refuses(BAD, Scenes::rich, (y, v) -> y.below(v), -1, 6, LEAST, MOST);
    }

    static void promise14AllCandles() {
        SpoonPassage x = new SpoonPassage();
        due("of nobody", x.below(3), 0);
        for (int i = 0; i < 10; i++) {
            x.digger(0, 0, 99, 0);
        }
        due("the most", x.below(3), 990);
    }

    static void promise14BranchesAsASet() {
        SpoonPassage x = new SpoonPassage();
        int set = 0;
        due("none", x.below(4), 0);
        for (int b = 3; b >= 0; b--) {
            x.digger(0, 0, 0, b);
            set |= 1 << b;
            due("branch " + b + " too, lit or not", x.below(4), set);
        }
        x.sends(0, 0);
        due("3 is left", x.below(4), 7);
    }

    static void promise14FrontOfSeveralTheLeast() {
        SpoonPassage x = new SpoonPassage();
        due("nothing is dug", x.below(5), 0);
        x.branch(3, 0, 1);
        due("3", x.below(5), 3);
        x.branch(2, 0, 1);
        due("2 as much", x.below(5), 2);
        x.branch(1, 0, 1);
        due("1 as much", x.below(5), 1);
        x.branch(0, 0, 1);
        due("0 as much", x.below(5), 0);
        x.branch(2, 0, 2);
        due("2 by 1 more", x.below(5), 2);
        x.branch(3, 0, 999);
        due("the most", x.below(5), 3);
    }
}
