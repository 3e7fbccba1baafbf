/** The edges of promises 1 to 12: a new object, diggers, branches, rules, lots. */
public final class DiggersEdgesTest {
    private static final int BAD = Due.BAD, NO = Due.NO, FULL = Due.FULL, NONE = Due.NONE;
    private static final int NOTHING = Due.NOTHING, KIND = Due.KIND;
    private static final int LEAST = Edges.LEAST, MOST = Edges.MOST;

    private static void due(String what, int got, int want) {
        Edges.due(what, got, want);
    }

    public static void main(String[] args) {
        Edges.run(DiggersEdgesTest.class);
    }

    // ---- 1

    static void promise01ThereAreNoDiggers() {
        SpoonPassage x = new SpoonPassage();
        due("how many", x.count(0), 0);
        for (int what = 0; what < 8; what++) {
            due("told", x.told(0, what), BAD);
        }
        for (int b = 0; b < 4; b++) {
            due("in branch " + b, x.branchOf(b, 4), 0);
            due("dig there", x.branchOf(b, 5), 0);
        }
        due("branches with diggers", x.below(4), 0);
        due("hill", x.below(2), 0);
        due("candles", x.below(3), 0);
    }

    static void promise01BranchesAtFirst() {
        SpoonPassage x = new SpoonPassage();
        int[] first = {0, 10, 0, 0};
        for (int b = 0; b < 4; b++) {
            for (int what = 0; what < 4; what++) {
                due("branch " + b + ", " + what, x.branchOf(b, what), first[what]);
            }
        }
    }

    static void promise01StepIs3AndFallIs0AtFirst() {
        SpoonPassage x = new SpoonPassage();
        due("step", x.rule(0, 1), 3);
        due("fall", x.rule(1, 1), 0);
    }

    static void promise01MetFallsNightAre0AtFirst() {
        SpoonPassage x = new SpoonPassage();
        due("met", x.below(0), 0);
        due("falls", x.below(1), 0);
        due("night", x.count(1), 0);
    }

    static void promise01ZIs1AtFirst() {
        due("z", new SpoonPassage().seed(5), 1);
    }

    static void promise01NoTextsAndAnEmptyTape() {
        SpoonPassage x = new SpoonPassage();
        due("texts", x.count(6), 0);
        due("the first", x.textTold(0, 0), BAD);
        for (int key = 0; key < 3; key++) {
            due("that counts", x.why(key), NONE);
        }
        due("bytes", x.count(8), 0);
        due("a text of none", x.text(), -100);
    }

    static void promise01AllSheetsAreMissing() {
        SpoonPassage x = new SpoonPassage();
        for (int s = 0; s < 4; s++) {
            due("mark", x.mark(s, 0, 0), NOTHING);
            due("pour", x.pour(s), NOTHING);
            due("reads", x.reads(s), NOTHING);
            due("like", x.like(s, 0), NOTHING);
            due("lay", x.lay(0, 2, s), NOTHING);
            due("copy", x.copy(s, 0, s, 0, 0), NOTHING);
        }
    }

    static void promise01AllSlotsHoldNothing() {
        SpoonPassage x = new SpoonPassage();
        for (int s = 0; s < 5; s++) {
            due("ask", x.ask(s, 0), NOTHING);
            due("item", x.item(s, 0), NOTHING);
            due("rest", x.rest(s, 1), NOTHING);
            due("held", x.lay(s, 3, 5), 0);
        }
    }

    static void promise01NothingWaitsAndThereIsNoImage() {
        SpoonPassage x = new SpoonPassage();
        due("wait", x.count(7), 0);
        due("back", x.back(), NO);
        due("check", x.check(1), NO);
    }

    static void promise01EachObjectIsByItself() {
        Scenes.full();
        Edges.same("a new one beside a full one", new SpoonPassage(), Scenes.bare());
        SpoonPassage x = new SpoonPassage();
        SpoonPassage y = new SpoonPassage();
        x.digger(0, 30, 9, 0);
        Due.text(x, "dig 50");
        y.digger(0, 30, 9, 0);
        due("the one has a law", x.told(0, 5), 50);
        due("the other has none", y.told(0, 5), 20);
        due("nor an image", y.back(), NO);
    }

    static void promise01UsedFor512Calls() {
        SpoonPassage x = new SpoonPassage();
        for (int i = 0; i < 511; i++) {
            due("seed", x.seed(i + 2), i + 1);
        }
        due("the 512th", x.count(9), 512);
    }

    // ---- 2

    static void promise02KindIs0To5() {
        SpoonPassage x = new SpoonPassage();
        for (int kind = 0; kind < 6; kind++) {
            due("kind", x.digger(kind, 1, 1, 1), kind);
            due("is", x.told(kind, 0), kind);
        }
        Edges.refuses(BAD, Scenes::rich, (y, v) -> y.digger(v, 1, 1, 1), -1, 6, LEAST, MOST);
    }

    static void promise02ForceIs0To99() {
        SpoonPassage x = new SpoonPassage();
        due("0", x.digger(0, 0, 1, 1), 0);
        due("99", x.digger(0, 99, 1, 1), 1);
        due("is", x.told(0, 1), 0);
        due("is", x.told(1, 1), 99);
        Edges.refuses(BAD, Scenes::rich, (y, v) -> y.digger(0, v, 1, 1), -1, 100, LEAST, MOST);
    }

    static void promise02CandlesAre0To99() {
        SpoonPassage x = new SpoonPassage();
        due("0", x.digger(0, 1, 0, 1), 0);
        due("99", x.digger(0, 1, 99, 1), 1);
        due("are", x.told(0, 2), 0);
        due("are", x.told(1, 2), 99);
        Edges.refuses(BAD, Scenes::rich, (y, v) -> y.digger(0, 1, v, 1), -1, 100, LEAST, MOST);
    }

    static void promise02BranchIs0To3() {
        SpoonPassage x = new SpoonPassage();
        for (int b = 0; b < 4; b++) {
            due("branch", x.digger(0, 1, 1, b), b);
            due("is", x.told(b, 3), b);
        }
        Edges.refuses(BAD, Scenes::rich, (y, v) -> y.digger(0, 1, 1, v), -1, 4, LEAST, MOST);
    }

    static void promise02TenAtMostNumberedFrom0() {
        SpoonPassage x = new SpoonPassage();
        for (int i = 0; i < 10; i++) {
            due("number", x.digger(i % 6, i, i, i % 4), i);
        }
        due("the eleventh", x.digger(0, 1, 1, 1), FULL);
        due("ten", x.count(0), 10);
        due("the last is there", x.told(9, 1), 9);
    }

    static void promise02FullChangesNothing() {
        Edges.refuses(FULL, Scenes::full, x -> x.digger(0, 1, 1, 1), "an eleventh");
    }

    static void promise02BadStandsAheadOfFull() {
        Edges.refuses(BAD, Scenes::full, (x, v) -> x.digger(v, 1, 1, 1), -1, 6);
        Edges.refuses(BAD, Scenes::full, (x, v) -> x.digger(0, v, 1, 1), -1, 100);
        Edges.refuses(BAD, Scenes::full, (x, v) -> x.digger(0, 1, v, 1), -1, 100);
        Edges.refuses(BAD, Scenes::full, (x, v) -> x.digger(0, 1, 1, v), -1, 4);
    }

    static void promise02EarthIs0AtFirst() {
        SpoonPassage x = Scenes.still();
        x.keep();
        x.digger(0, 30, 9, 0);
        x.nights(1);
        due("the first one's", x.told(0, 4), 30);
        x.back();
        due("another comes in its place", x.digger(1, 5, 5, 0), 0);
        due("earth", x.told(0, 4), 0);
    }

    // ---- 3

    static void promise03DiggerIsOneThatIsThere() {
        SpoonPassage x = Scenes.rich();
        due("the first", x.told(0, 1), 40);
        due("the last", x.told(5, 1), 45);
        Edges.refuses(BAD, Scenes::rich, (y, v) -> y.told(v, 1), -1, 6, 10, LEAST, MOST);
        Edges.refuses(BAD, Scenes::full, (y, v) -> y.told(v, 1), -1, 10);
        Edges.refuses(BAD, Scenes::bare, (y, v) -> y.told(v, 1), -1, 0);
    }

    static void promise03WhatIs0To7() {
        SpoonPassage x = new SpoonPassage();
        x.branch(2, 0, 1);
        x.digger(1, 31, 21, 2);
        int[] is = {1, 31, 21, 2, 0, 22, 2, 52};
        for (int what = 0; what < 8; what++) {
            due("what " + what, x.told(0, what), is[what]);
        }
        Edges.refuses(BAD, Scenes::rich, (y, v) -> y.told(0, v), -1, 8, LEAST, MOST);
        for (int what = 0; what < 8; what++) {
            int w = what;
            Edges.changesNothing(Scenes::rich, y -> y.told(3, w));
        }
    }

    private static int digs(int kind, int force, int rock) {
        SpoonPassage x = Scenes.one(kind, force, 9);
        x.branch(0, 1, rock);
        return x.told(0, 5);
    }

    static void promise03PlainIsHeldWithin0And99() {
        due("99 without rock", digs(0, 99, 0), 99);
        due("one rock", digs(0, 99, 1), 98);
        due("1 above the rock", digs(0, 51, 50), 1);
        due("as the rock", digs(0, 50, 50), 0);
        due("1 below the rock", digs(0, 49, 50), 0);
        due("0 against 99", digs(0, 0, 99), 0);
        due("99 against 99", digs(0, 99, 99), 0);
    }

    private static int digsBy(String law, int kind) {
        SpoonPassage x = Scenes.one(kind, 30, 9);
        due("a text", Due.text(x, law), 0);
        return x.told(0, 5);
    }

    static void promise03PlainByATextIsHeldWithin0And99() {
        due("98", digsBy("dig 98", 0), 98);
        due("99", digsBy("dig 99", 0), 99);
        due("100", digsBy("dig 100", 0), 99);
        due("the most", digsBy("dig 2048*2048*512-1", 0), 99);
        due("which wraps", digsBy("dig 2048*2048*512", 0), 0);
        due("1", digsBy("dig 1", 0), 1);
        due("0", digsBy("dig 0", 0), 0);
        due("-1", digsBy("dig 0-1", 0), 0);
        due("a son by 100", digsBy("dig 100", 1), 100);
        due("a son by -9", digsBy("dig 0-9", 1), 1);
        due("an uncle by 200", digsBy("dig 200", 2), 49);
        due("a nun by 50", digsBy("dig 50", 5), 1);
    }

    static void promise03ASonDigs1More() {
        due("of 0", digs(1, 0, 50), 1);
        due("of 1", digs(1, 51, 50), 2);
        due("of 99", digs(1, 99, 0), 100);
    }

    private static int boyDigs(int force, int ahead) {
        SpoonPassage x = Scenes.one(3, force, 9);
        x.branch(0, 0, 500 + ahead);
        x.branch(0, 2, 500);
        return x.told(0, 5);
    }

    static void promise03ABoyDigsHalfIfAheadIsAbove40() {
        due("39 ahead", boyDigs(49, 39), 50);
        due("40 ahead", boyDigs(49, 40), 50);
        due("41 ahead", boyDigs(49, 41), 25);
        due("499 ahead", boyDigs(49, 499), 25);
        due("0 ahead", boyDigs(49, 0), 50);
    }

    static void promise03HalfOfABoyIsCut() {
        due("of 1", boyDigs(0, 41), 0);
        due("of 2", boyDigs(1, 41), 1);
        due("of 3", boyDigs(2, 41), 1);
        due("of 100", boyDigs(99, 41), 50);
        due("of 99", boyDigs(98, 41), 49);
    }

    static void promise03HalfOfAnUncleIsCut() {
        due("of 0", digs(2, 0, 0), 0);
        due("of 1", digs(2, 1, 0), 0);
        due("of 2", digs(2, 2, 0), 1);
        due("of 3", digs(2, 3, 0), 1);
        due("of 99", digs(2, 99, 0), 49);
    }

    static void promise03ALodgerAloneIsAsAnUncle() {
        due("of 0", digs(4, 0, 0), 0);
        due("of 3", digs(4, 3, 0), 1);
        due("of 99", digs(4, 99, 0), 49);
    }

    static void promise03ALodgerCountsOthersThatAreUncleOrLodger() {
        for (int kind = 0; kind < 6; kind++) {
            SpoonPassage x = Scenes.one(4, 20, 9);
            x.digger(kind, 20, 9, 0);
            due("beside kind " + kind, x.told(0, 5), kind == 2 || kind == 4 ? 12 : 10);
        }
    }

    static void promise03ALodgerCountsOthersThatAreLit() {
        SpoonPassage x = Scenes.one(4, 20, 0);
        x.digger(2, 20, 0, 0);
        due("0 candles", x.told(0, 5), 10);
        x.set(1, 2, 1);
        due("1 candle", x.told(0, 5), 12);
    }

    static void promise03ALodgerCountsOthersInItsBranch() {
        SpoonPassage x = Scenes.one(4, 20, 9);
        x.digger(2, 20, 9, 1);
        x.digger(2, 20, 9, 3);
        due("elsewhere", x.told(0, 5), 10);
        x.sends(2, 0);
        due("here", x.told(0, 5), 12);
    }

    static void promise03ALodgerWithNineOthers() {
        SpoonPassage x = Scenes.one(4, 99, 9);
        for (int i = 1; i < 10; i++) {
            x.digger(i % 2 == 0 ? 2 : 4, 20, 9, 0);
        }
        due("the first", x.told(0, 5), 49 + 18);
        due("the last", x.told(9, 5), 10 + 18);
    }

    static void promise03ANunDigs1() {
        due("of 0", digs(5, 0, 99), 1);
        due("of 99", digs(5, 99, 0), 1);
    }

    static void promise03BurnsByKind() {
        int[] burns = {1, 2, 0, 2, 3, 2};
        for (int kind = 0; kind < 6; kind++) {
            for (int ahead : new int[] {0, 40, 41, 400}) {
                SpoonPassage x = Scenes.one(kind, 20, 9);
                x.branch(0, 0, 500 + ahead);
                x.branch(0, 2, 500);
                due(kind + ", " + ahead + " ahead", x.told(0, 6), kind == 3 && ahead > 40 ? 0 : burns[kind]);
            }
        }
    }

    private static int worth(int kind, int force, int candles) {
        return Scenes.one(kind, force, candles).told(0, 7);
    }

    static void promise03WorthAtTheEnds() {
        due("a digger's, 0", worth(0, 99, 0), 0);
        due("a digger's, 99", worth(0, 0, 99), 99);
        due("a son's, 0", worth(1, 0, 0), 0);
        due("a son's, most", worth(1, 99, 99), 198);
        due("a boy's, 0", worth(3, 0, 0), 0);
        due("a boy's, most", worth(3, 99, 99), 396);
        due("an uncle's, 99 candles", worth(2, 50, 99), 0);
        due("an uncle's, 0 candles", worth(2, 50, 0), 99);
    }

    static void promise03HalfOfALodgersWorthIsCut() {
        due("of 0", worth(4, 50, 99), 0);
        due("of 1", worth(4, 50, 98), 0);
        due("of 2", worth(4, 50, 97), 1);
        due("of 99", worth(4, 50, 0), 49);
    }

    private static int nunsWorth(int earth) {
        SpoonPassage x = Scenes.withEarth(earth);
        due("earth", x.told(0, 4), earth);
        x.turns(0, 5);
        return x.told(0, 7);
    }

    static void promise03ATenthOfANunsEarthIsCut() {
        due("of 0", nunsWorth(0), 0);
        due("of 9", nunsWorth(9), 0);
        due("of 10", nunsWorth(10), 1);
        due("of 19", nunsWorth(19), 1);
        due("of 9999", nunsWorth(9999), 999);
    }

    // ---- 4

    static void promise04DiggerIsOneThatIsThere() {
        SpoonPassage x = Scenes.rich();
        due("the first", x.as(0, 0), 40);
        due("the last", x.as(5, 0), 45);
        Edges.refuses(BAD, Scenes::rich, (y, v) -> y.as(v, 0), -1, 6, LEAST, MOST);
        Edges.refuses(BAD, Scenes::bare, (y, v) -> y.as(v, 0), -1, 0);
    }

    static void promise04KindIs0To5() {
        SpoonPassage x = Scenes.rich();
        due("0", x.as(5, 0), 45);
        due("5", x.as(5, 5), 45);
        Edges.refuses(BAD, Scenes::rich, (y, v) -> y.as(5, v), -1, 6, LEAST, MOST);
    }

    static void promise04BadStandsAheadOfKind() {
        // digger 0 is no son, and there is no kind 6, no digger 6
        Edges.refuses(BAD, Scenes::silent, x -> x.as(0, 6), "kind 6 of digger 0");
        Edges.refuses(BAD, Scenes::silent, x -> x.as(6, 1), "kind 1 of digger 6");
    }

    static void promise04OfThatKindOrOneUnderIt() {
        String[] is = {"0", "01", "02", "013", "024", "05"};
        for (int kind = 0; kind < 6; kind++) {
            for (int asked = 0; asked < 6; asked++) {
                SpoonPassage x = Scenes.one(kind, 60 + kind, 1);
                boolean one = is[kind].indexOf('0' + asked) >= 0;
                due(kind + " as " + asked, x.as(0, asked), one ? 60 + kind : KIND);
            }
        }
    }

    static void promise04AKindAboveIsNotOneUnder() {
        SpoonPassage x = Scenes.one(0, 9, 9);
        due("a digger as a son", x.as(0, 1), KIND);
        x.turns(0, 1);
        due("a son as a boy", x.as(0, 3), KIND);
        due("a son as an uncle", x.as(0, 2), KIND);
    }

    static void promise04KindChangesNothing() {
        Edges.refuses(KIND, Scenes::silent, (x, v) -> x.as(0, v), 1, 2, 3, 4, 5);
        Edges.changesNothing(Scenes::silent, x -> x.as(3, 1));
    }

    // ---- 5

    static void promise05DiggerIsOneThatIsThere() {
        SpoonPassage x = Scenes.silent();
        due("the first", x.turns(0, 3), 0);
        due("the last", x.turns(5, 3), 5);
        Edges.refuses(BAD, Scenes::silent, (y, v) -> y.turns(v, 0), -1, 6, LEAST, MOST);
        Edges.refuses(BAD, Scenes::bare, (y, v) -> y.turns(v, 0), -1, 0);
    }

    static void promise05KindIs0To5() {
        SpoonPassage x = Scenes.one(0, 9, 9);
        for (int kind = 1; kind < 6; kind++) {
            due("was", x.turns(0, kind), kind - 1);
            due("is", x.told(0, 0), kind);
        }
        due("was", x.turns(0, 0), 5);
        Edges.refuses(BAD, Scenes::silent, (y, v) -> y.turns(1, v), -1, 6, LEAST, MOST);
    }

    static void promise05AllElseStays() {
        SpoonPassage x = Scenes.one(0, 33, 22);
        x.nights(1);
        x.turns(0, 4);
        int[] is = {4, 33, 21, 0, 33};
        for (int what = 0; what < 5; what++) {
            due("what " + what, x.told(0, what), is[what]);
        }
        due("as a lodger now", x.told(0, 6), 3);
    }

    static void promise05ToTheKindThatItIs() {
        SpoonPassage x = Scenes.one(2, 9, 9);
        due("was", x.turns(0, 2), 2);
        due("is", x.told(0, 0), 2);
    }

    // ---- 6

    static void promise06DiggerIsOneThatIsThere() {
        SpoonPassage x = Scenes.silent();
        due("the first", x.set(0, 1, 5), 40);
        due("the last", x.set(5, 1, 5), 45);
        Edges.refuses(BAD, Scenes::silent, (y, v) -> y.set(v, 1, 5), -1, 6, LEAST, MOST);
        Edges.refuses(BAD, Scenes::bare, (y, v) -> y.set(v, 1, 5), -1, 0);
    }

    static void promise06WhatIs1Or2() {
        SpoonPassage x = Scenes.one(0, 11, 12);
        due("1, force", x.set(0, 1, 21), 11);
        due("2, candles", x.set(0, 2, 22), 12);
        due("force", x.told(0, 1), 21);
        due("candles", x.told(0, 2), 22);
        Edges.refuses(BAD, Scenes::silent, (y, v) -> y.set(0, v, 1), -1, 0, 3, 4, LEAST, MOST);
    }

    static void promise06ForceBecomes0To99() {
        SpoonPassage x = Scenes.one(0, 11, 12);
        due("0", x.set(0, 1, 0), 11);
        due("99", x.set(0, 1, 99), 0);
        due("is", x.told(0, 1), 99);
        Edges.refuses(BAD, Scenes::silent, (y, v) -> y.set(0, 1, v), -1, 100, LEAST, MOST);
    }

    static void promise06CandlesBecome0To99() {
        SpoonPassage x = Scenes.one(0, 11, 12);
        due("0", x.set(0, 2, 0), 12);
        due("99", x.set(0, 2, 99), 0);
        due("are", x.told(0, 2), 99);
        Edges.refuses(BAD, Scenes::silent, (y, v) -> y.set(0, 2, v), -1, 100, LEAST, MOST);
    }

    // ---- 7

    static void promise07DiggerIsOneThatIsThere() {
        SpoonPassage x = Scenes.silent();
        due("the first", x.sends(0, 2), 0);
        due("the last", x.sends(5, 2), 1);
        Edges.refuses(BAD, Scenes::silent, (y, v) -> y.sends(v, 2), -1, 6, LEAST, MOST);
        Edges.refuses(BAD, Scenes::bare, (y, v) -> y.sends(v, 2), -1, 0);
    }

    static void promise07BranchIs0To3() {
        SpoonPassage x = Scenes.one(0, 11, 12);
        int[] to = {3, 0, 1, 2, 2};
        int was = 0;
        for (int b : to) {
            due("was", x.sends(0, b), was);
            due("is", x.told(0, 3), b);
            was = b;
        }
        Edges.refuses(BAD, Scenes::silent, (y, v) -> y.sends(1, v), -1, 4, LEAST, MOST);
    }

    // ---- 8

    static void promise08BranchIs0To3() {
        SpoonPassage x = new SpoonPassage();
        for (int b = 0; b < 4; b++) {
            due("rock", x.branch(b, 1, 20 + b), 10);
        }
        for (int b = 0; b < 4; b++) {
            due("of each by itself", x.branchOf(b, 1), 20 + b);
        }
        Edges.refuses(BAD, Scenes::rich, (y, v) -> y.branch(v, 1, 5), -1, 4, LEAST, MOST);
    }

    static void promise08WhatIs0To2() {
        SpoonPassage x = new SpoonPassage();
        due("0, dug", x.branch(1, 0, 8), 0);
        due("1, rock", x.branch(1, 1, 7), 10);
        due("2, warder", x.branch(1, 2, 6), 0);
        due("dug", x.branchOf(1, 0), 8);
        due("rock", x.branchOf(1, 1), 7);
        due("warder", x.branchOf(1, 2), 6);
        Edges.refuses(BAD, Scenes::rich, (y, v) -> y.branch(1, v, 60), -1, 3, LEAST, MOST);
    }

    static void promise08DugBecomes0To999() {
        SpoonPassage x = new SpoonPassage();
        due("999", x.branch(0, 0, 999), 0);
        due("0", x.branch(0, 0, 0), 999);
        due("is", x.branchOf(0, 0), 0);
        Edges.refuses(BAD, Scenes::rich, (y, v) -> y.branch(0, 0, v), -1, 1000, LEAST, MOST);
        Edges.refuses(BAD, Scenes::bare, (y, v) -> y.branch(0, 0, v), -1, 1000);
    }

    static void promise08RockBecomes0To99() {
        SpoonPassage x = new SpoonPassage();
        due("0", x.branch(0, 1, 0), 10);
        due("99", x.branch(0, 1, 99), 0);
        due("is", x.branchOf(0, 1), 99);
        Edges.refuses(BAD, Scenes::rich, (y, v) -> y.branch(0, 1, v), -1, 100, LEAST, MOST);
    }

    static void promise08WarderBecomes0To999() {
        SpoonPassage x = new SpoonPassage();
        x.branch(0, 0, 999);
        due("999", x.branch(0, 2, 999), 0);
        due("0", x.branch(0, 2, 0), 999);
        due("is", x.branchOf(0, 2), 0);
        due("1000", x.branch(0, 2, 1000), BAD);
        Edges.refuses(BAD, Scenes::rich, (y, v) -> y.branch(0, 2, v), -1, 1000, LEAST, MOST);
    }

    private static SpoonPassage followed() {
        SpoonPassage x = Scenes.silent();
        x.branch(2, 0, 70);
        x.branch(2, 2, 60);
        return x;
    }

    static void promise08WarderIsNotAboveDug() {
        due("at it", followed().branch(2, 2, 70), 60);
        Edges.refuses(BAD, DiggersEdgesTest::followed, (x, v) -> x.branch(2, 2, v), 71, 999);
    }

    static void promise08DugIsNotBelowWarder() {
        due("at him", followed().branch(2, 0, 60), 70);
        Edges.refuses(BAD, DiggersEdgesTest::followed, (x, v) -> x.branch(2, 0, v), 59, 0);
    }

    // ---- 9

    static void promise09BranchIs0To3() {
        SpoonPassage x = Scenes.silent();
        due("0", x.branchOf(0, 0), 100);
        due("3", x.branchOf(3, 0), 103);
        Edges.refuses(BAD, Scenes::rich, (y, v) -> y.branchOf(v, 0), -1, 4, LEAST, MOST);
    }

    static void promise09WhatIs0To5() {
        SpoonPassage x = Scenes.silent();
        // the diggers 1 and 5 are in branch 1: a son with force 41, a nun; the law is f-r+1
        int[] is = {101, 6, 51, 50, 2 + 32, 41 - 6 + 1 + 1 + 1};
        for (int what = 0; what < 6; what++) {
            due("what " + what, x.branchOf(1, what), is[what]);
            int w = what;
            Edges.changesNothing(Scenes::rich, y -> y.branchOf(1, w));
        }
        Edges.refuses(BAD, Scenes::rich, (y, v) -> y.branchOf(1, v), -1, 6, LEAST, MOST);
    }

    static void promise09AheadAtTheEnds() {
        SpoonPassage x = new SpoonPassage();
        x.branch(0, 0, 999);
        due("999", x.branchOf(0, 3), 999);
        x.branch(0, 2, 999);
        due("0", x.branchOf(0, 3), 0);
    }

    static void promise09DiggersAsASet() {
        SpoonPassage x = new SpoonPassage();
        due("none", x.branchOf(2, 4), 0);
        for (int i = 0; i < 10; i++) {
            x.digger(0, 5, i % 2, 2);
        }
        due("all ten, lit or not", x.branchOf(2, 4), 1023);
        for (int i = 0; i < 9; i++) {
            x.sends(i, 1);
        }
        due("the last", x.branchOf(2, 4), 512);
        due("all but the last", x.branchOf(1, 4), 511);
    }

    static void promise09OfThoseThatAreLit() {
        SpoonPassage x = Scenes.one(0, 20, 0);
        x.digger(0, 7, 0, 0);
        due("none is", x.branchOf(0, 5), 0);
        x.set(0, 2, 1);
        due("one is", x.branchOf(0, 5), 20);
        x.set(1, 2, 1);
        due("both are", x.branchOf(0, 5), 27);
        due("nobody is here", x.branchOf(1, 5), 0);
    }

    static void promise09AllTenDig() {
        SpoonPassage x = Scenes.still();
        for (int i = 0; i < 10; i++) {
            x.digger(0, 99, 1, 0);
        }
        due("together", x.branchOf(0, 5), 990);
        due("nobody elsewhere", x.branchOf(3, 5), 0);
    }

    static void promise09OneWhoIsGoneDigsNoMore() {
        SpoonPassage x = Scenes.one(0, 20, 9);
        x.keep();
        x.digger(0, 30, 9, 0);
        due("both", x.branchOf(0, 5), 50);
        x.back();
        due("the first", x.branchOf(0, 5), 20);
        due("as a set", x.branchOf(0, 4), 1);
    }

    static void promise09TheyDigAsTheyAre() {
        SpoonPassage x = Scenes.one(3, 49, 9);
        x.digger(3, 49, 9, 0);
        x.branch(0, 0, 40);
        due("the second is not far yet", x.branchOf(0, 5), 50 + 50);
        due("though in a night he is", x.nights(1), 50 + 25);
    }

    // ---- 10

    static void promise10WhatIs0Or1() {
        SpoonPassage x = new SpoonPassage();
        due("0, step", x.rule(0, 7), 3);
        due("1, fall", x.rule(1, 8), 0);
        due("step", x.count(2), 7);
        due("fall", x.count(3), 8);
        Edges.refuses(BAD, Scenes::rich, (y, v) -> y.rule(v, 5), -1, 2, LEAST, MOST);
    }

    static void promise10StepBecomes0To99() {
        SpoonPassage x = new SpoonPassage();
        due("0", x.rule(0, 0), 3);
        due("99", x.rule(0, 99), 0);
        due("is", x.count(2), 99);
        Edges.refuses(BAD, Scenes::rich, (y, v) -> y.rule(0, v), -1, 100, LEAST, MOST);
    }

    static void promise10FallBecomes0To100() {
        SpoonPassage x = new SpoonPassage();
        due("100", x.rule(1, 100), 0);
        due("0", x.rule(1, 0), 100);
        due("is", x.count(3), 0);
        Edges.refuses(BAD, Scenes::rich, (y, v) -> y.rule(1, v), -1, 101, LEAST, MOST);
    }

    // ---- 11

    static void promise11NIs1To10() {
        due("1", new SpoonPassage().deal(1), 1);
        due("10", new SpoonPassage().deal(10), 10);
        Edges.refuses(BAD, Scenes::rich, (x, v) -> x.deal(v), 0, -1, 11, LEAST, MOST);
        Edges.refuses(BAD, Scenes::full, (x, v) -> x.deal(v), 0, 11);
    }

    private static int drawn(int z, int draws) {
        for (int i = 0; i < draws; i++) {
            z = z * 1103515245 + 12345;
        }
        return z;
    }

    static void promise11AsManyAsThereIsRoomFor() {
        SpoonPassage x = new SpoonPassage();
        for (int i = 0; i < 8; i++) {
            x.digger(0, 1, 1, 1);
        }
        due("room for two", x.deal(3), 2);
        due("ten", x.count(0), 10);
        due("four draws each, none for others", x.count(9), drawn(1, 8));
    }

    static void promise11JustAsManyAsThereIsRoomFor() {
        SpoonPassage x = new SpoonPassage();
        for (int i = 0; i < 8; i++) {
            x.digger(0, 1, 1, 1);
        }
        due("two", x.deal(2), 2);
        due("draws", x.count(9), drawn(1, 8));
    }

    static void promise11NoRoom() {
        Edges.refuses(0, Scenes::full, (x, v) -> x.deal(v), 1, 10);
    }

    static void promise11AsTheyAreDrawn() {
        for (int seed : new int[] {1, 0, -1, LEAST, MOST, 77777}) {
            SpoonPassage x = new SpoonPassage();
            x.seed(seed);
            x.deal(1);
            int[] by = {6, 40, 60, 4};
            int[] and = {0, 10, 5, 0};
            for (int what = 0; what < 4; what++) {
                due("seed " + seed + ", what " + what, x.told(0, what), (drawn(seed, what + 1) >>> 8) % by[what] + and[what]);
            }
            due("earth", x.told(0, 4), 0);
        }
    }

    static void promise11WithinTheirRanges() {
        int[] least = {MOST, MOST, MOST, MOST};
        int[] most = {LEAST, LEAST, LEAST, LEAST};
        for (int seed = 0; seed < 100; seed++) {
            SpoonPassage x = new SpoonPassage();
            x.seed(seed * 1000003);
            x.deal(10);
            for (int d = 0; d < 10; d++) {
                for (int what = 0; what < 4; what++) {
                    least[what] = Math.min(least[what], x.told(d, what));
                    most[what] = Math.max(most[what], x.told(d, what));
                }
            }
        }
        int[] from = {0, 10, 5, 0};
        int[] to = {5, 49, 64, 3};
        for (int what = 0; what < 4; what++) {
            due("least " + what, least[what], from[what]);
            due("most " + what, most[what], to[what]);
        }
    }

    // ---- 12

    static void promise12AnyInt() {
        SpoonPassage x = new SpoonPassage();
        int was = 1;
        for (int v : new int[] {LEAST, MOST, 0, -1, BAD, NONE, 1}) {
            due("was", x.seed(v), was);
            due("is", x.count(9), v);
            was = v;
        }
    }

    static void promise12ADrawWrapsAround() {
        for (int v : new int[] {LEAST, MOST, -1, 2}) {
            SpoonPassage x = new SpoonPassage();
            x.seed(v);
            x.nights(1);
            due("behind " + v, x.count(9), (int) (v * 1103515245L + 12345L));
        }
    }
}
