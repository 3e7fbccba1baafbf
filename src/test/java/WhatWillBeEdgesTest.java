/** The edges of promises 15 to 24: what will be, what is best, what it is like, fee and fine. */
public final class WhatWillBeEdgesTest {
    private static final int BAD = Due.BAD, NONE = Due.NONE, NOTHING = Due.NOTHING;
    private static final int LEAST = Edges.LEAST, MOST = Edges.MOST;

    private static void due(String what, int got, int want) {
        Edges.due(what, got, want);
    }

    public static void main(String[] args) {
        Edges.run(WhatWillBeEdgesTest.class);
    }

    /** An uncle in branch 0 who digs 1 a night, and whose light lasts for good; 1 is dug. */
    private static SpoonPassage uncle() {
        return Scenes.one(2, 2, 1);
    }

    /** The same in the last night that there is. */
    private static SpoonPassage uncleInTheLastNight() {
        SpoonPassage x = Scenes.atNight(Scenes.still(), 9999);
        x.digger(2, 2, 1, 0);
        return x;
    }

    // ---- 15

    static void promise15NIs0To100() {
        due("0", uncle().behind(0, 2), 0);
        due("1", uncle().behind(1, 2), 1);
        due("100", uncle().behind(100, 2), 100);
        Edges.refuses(BAD, Scenes::rich, (x, v) -> x.behind(v, 2), -1, 101, LEAST, MOST);
    }

    static void promise15WhatIs0To6() {
        SpoonPassage x = new SpoonPassage();
        x.rule(1, 100);
        for (int b = 0; b < 4; b++) {
            x.branch(b, 0, 100 * b);
        }
        x.digger(0, 50, 9, 2);
        x.digger(0, 0, 0, 0);
        // one night: the second is met in 0, the first digs 40, rock falls
        int[] is = {1, 1, 40, 0, 100, 240, 300};
        for (int what = 0; what < 7; what++) {
            due("what " + what, x.behind(1, what), is[what]);
        }
        Edges.refuses(BAD, Scenes::rich, (y, v) -> y.behind(1, v), -1, 7, LEAST, MOST);
        Edges.refuses(BAD, Scenes::rich, (y, v) -> y.behind(0, v), -1, 7);
    }

    static void promise15BehindNoNightsAllIsAsNow() {
        SpoonPassage x = Scenes.rich();
        due("met", x.behind(0, 0), x.below(0));
        due("falls", x.behind(0, 1), x.below(1));
        due("hill", x.behind(0, 2), x.below(2));
        for (int b = 0; b < 4; b++) {
            due("dug " + b, x.behind(0, 3 + b), x.branchOf(b, 0));
        }
    }

    static void promise15NothingChanges() {
        for (int what = 0; what < 7; what++) {
            int w = what;
            Edges.changesNothing(Scenes::rich, x -> x.behind(100, w));
            Edges.changesNothing(Scenes::full, x -> x.behind(3, w));
        }
    }

    static void promise15ZAsItIs() {
        SpoonPassage x = Scenes.full();
        int falls = x.behind(100, 1);
        int hill = x.behind(100, 2);
        due("again", x.behind(100, 1), falls);
        x.nights(100);
        due("and so it comes: falls", x.below(1), falls);
        due("hill", x.below(2), hill);
    }

    static void promise15WithoutTheBoundOfTheNight() {
        SpoonPassage x = uncleInTheLastNight();
        due("100 nights", x.behind(100, 2), 100);
        due("dug", x.behind(100, 3), 101);
        due("the night stays", x.count(1), 9999);
    }

    // ---- 16

    static void promise16BranchIs0To3() {
        SpoonPassage x = Scenes.still();
        x.digger(2, 12, 1, 3);
        due("0", x.reaches(0, 2), NONE);
        due("3", x.reaches(3, 2), 1);
        Edges.refuses(BAD, Scenes::rich, (y, v) -> y.reaches(v, 2), -1, 4, LEAST, MOST);
    }

    static void promise16VIs0To999() {
        SpoonPassage x = uncle();
        due("0", x.reaches(0, 0), 0);
        due("999, too far", x.reaches(0, 999), NONE);
        x.branch(0, 0, 999);
        due("999, there", x.reaches(0, 999), 0);
        x.branch(0, 0, 998);
        due("999, one night", x.reaches(0, 999), 1);
        Edges.refuses(BAD, Scenes::rich, (y, v) -> y.reaches(0, v), -1, 1000, LEAST, MOST);
    }

    static void promise16Behind0NightsIfItIsThere() {
        SpoonPassage x = uncle();
        x.branch(0, 0, 50);
        due("more", x.reaches(0, 49), 0);
        due("as much", x.reaches(0, 50), 0);
        due("one short", x.reaches(0, 51), 1);
    }

    static void promise16VOrMore() {
        SpoonPassage x = Scenes.one(0, 30, 2);
        due("30 in a night, just", x.reaches(0, 31), 1);
        due("one more", x.reaches(0, 32), 2);
        due("two nights", x.reaches(0, 61), 2);
        due("then it is dark", x.reaches(0, 62), NONE);
    }

    static void promise16Behind200NightsAtMost() {
        due("199", uncle().reaches(0, 200), 199);
        due("200", uncle().reaches(0, 201), 200);
        due("201", uncle().reaches(0, 202), NONE);
    }

    static void promise16WithoutTheBoundOfTheNight() {
        due("200", uncleInTheLastNight().reaches(0, 201), 200);
    }

    static void promise16NothingChanges() {
        Edges.changesNothing(Scenes::rich, x -> x.reaches(1, 999));
        Edges.changesNothing(Scenes::rich, x -> x.reaches(0, 0));
    }

    // ---- 17

    private static SpoonPassage followed(int ahead) {
        SpoonPassage x = new SpoonPassage();
        x.rule(0, 1);
        x.branch(0, 0, ahead);
        x.branch(1, 0, 900);
        x.digger(0, 0, 0, 0);
        return x;
    }

    static void promise17DiggerIsOneThatIsThere() {
        due("the first", followed(5).leaves(0), 5);
        Edges.refuses(BAD, Scenes::rich, (x, v) -> x.leaves(v), -1, 6, LEAST, MOST);
        Edges.refuses(BAD, Scenes::bare, (x, v) -> x.leaves(v), -1, 0);
    }

    static void promise17Behind1Night() {
        due("1 ahead", followed(1).leaves(0), 1);
        due("0 ahead", followed(0).leaves(0), 1);
        due("2 ahead", followed(2).leaves(0), 2);
    }

    static void promise17Behind200NightsAtMost() {
        due("199", followed(199).leaves(0), 199);
        due("200", followed(200).leaves(0), 200);
        due("201", followed(201).leaves(0), NONE);
    }

    static void promise17RoundByAllIsNoOtherBranch() {
        SpoonPassage x = new SpoonPassage();
        x.digger(0, 0, 0, 0);
        due("in 0 behind every night", x.leaves(0), NONE);
        x.branch(3, 0, 4);
        due("until 3 holds him up", x.leaves(0), 1);
        x.sends(0, 3);
        due("from 3 by 0", x.leaves(0), 2);
    }

    static void promise17FirstOfSeveralTimes() {
        SpoonPassage x = followed(2);
        x.branch(1, 0, 4);
        due("it comes back later", x.leaves(0), 2);
    }

    static void promise17WithoutTheBoundOfTheNight() {
        SpoonPassage x = Scenes.atNight(new SpoonPassage(), 9999);
        x.rule(0, 1);
        x.branch(0, 0, 200);
        x.branch(1, 0, 900);
        x.digger(0, 0, 0, 0);
        due("200", x.leaves(0), 200);
    }

    static void promise17NothingChanges() {
        for (int d = 0; d < 6; d++) {
            int digger = d;
            Edges.changesNothing(Scenes::rich, x -> x.leaves(digger));
        }
    }

    // ---- 18

    /** Ten nuns, each of whom digs 1 a night for ten nights. */
    private static SpoonPassage nuns() {
        SpoonPassage x = Scenes.still();
        for (int i = 0; i < 10; i++) {
            x.digger(5, 0, 20, i % 4);
        }
        return x;
    }

    static void promise18NIs0To10() {
        due("0", nuns().light(0, 0), 0);
        due("0", nuns().light(0, 1), NONE);
        due("1", nuns().light(1, 1), 1);
        due("10", nuns().light(10, 10), 1);
        Edges.refuses(BAD, Scenes::rich, (x, v) -> x.light(v, 1), -1, 11, LEAST, MOST);
    }

    static void promise18VIs0To9999() {
        due("0", nuns().light(10, 0), 0);
        due("9999", nuns().light(10, 9999), NONE);
        Edges.refuses(BAD, Scenes::rich, (x, v) -> x.light(1, v), -1, 10000, LEAST, MOST);
        SpoonPassage x = Scenes.withEarth(9999);
        due("9999 is there", x.light(0, 9999), 0);
    }

    static void promise18HillAsItIsCounts() {
        SpoonPassage x = Scenes.withEarth(9998);
        x.branch(0, 0, 500);
        due("as much", x.light(1, 9998), 0);
        due("one more", x.light(1, 9999), 1);
        due("no night", x.light(0, 9999), NONE);
    }

    static void promise18ByNobody() {
        SpoonPassage x = new SpoonPassage();
        due("0", x.light(10, 0), 0);
        due("1", x.light(10, 1), NONE);
    }

    static void promise18FewestOfTen() {
        due("one", nuns().light(10, 10), 1);
        due("two", nuns().light(10, 11), 3);
        due("two", nuns().light(10, 20), 3);
        due("three", nuns().light(10, 21), 7);
        due("nine", nuns().light(10, 90), 511);
        due("ten", nuns().light(10, 91), 1023);
        due("ten", nuns().light(10, 100), 1023);
        due("by none", nuns().light(10, 101), NONE);
    }

    private static SpoonPassage three(int a, int b, int c) {
        SpoonPassage x = Scenes.one(0, a, 9);
        x.digger(0, b, 9, 0);
        x.digger(0, c, 9, 0);
        return x;
    }

    static void promise18FewestAheadOfTheLeastSet() {
        due("the third alone, not the first two", three(10, 10, 20).light(1, 20), 4);
        due("first and third, not all", three(10, 10, 20).light(1, 30), 5);
        due("all", three(10, 10, 20).light(1, 40), 7);
        due("by none", three(10, 10, 20).light(1, 41), NONE);
    }

    static void promise18OfSeveralTheLeast() {
        due("the second, not the third", three(5, 20, 20).light(1, 20), 2);
        due("the first two", three(20, 20, 20).light(1, 40), 3);
        due("first and third, not second and third", three(20, 5, 20).light(1, 40), 5);
    }

    static void promise18TheMostThatOneDigs() {
        SpoonPassage x = Scenes.one(1, 99, 99);
        due("a son's 100", x.light(1, 100), 1);
        due("101", x.light(1, 101), NONE);
        due("a few nights", x.light(9, 900), 1);
        SpoonPassage y = Scenes.one(1, 99, 99);
        y.branch(0, 0, 0);
        due("the branch ends at 999", y.light(10, 999), 1);
        due("one more", y.light(10, 1000), NONE);
    }

    static void promise18AllThatThereIsRoomFor() {
        SpoonPassage x = new SpoonPassage();
        x.rule(0, 0);
        for (int b = 0; b < 4; b++) {
            x.branch(b, 0, 994);
            x.digger(0, 30, 9, b);
        }
        due("all of it", x.light(1, 20), 15);
        due("three quarters", x.light(10, 15), 7);
        due("one more", x.light(10, 21), NONE);
    }

    static void promise18CandlesOfAllOthersAre0() {
        // a lodger digs 2 more for each uncle that is lit
        SpoonPassage x = Scenes.one(4, 0, 9);
        x.digger(2, 0, 9, 0);
        x.digger(2, 0, 9, 0);
        due("one uncle beside it", x.light(1, 2), 3);
        due("both", x.light(1, 4), 7);
        due("by none", x.light(1, 5), NONE);
        SpoonPassage y = three(0, 0, 0);
        Due.text(y, "dig (n=1)*9");
        due("one alone", y.light(1, 9), 1);
        due("by none", y.light(1, 10), NONE);
        due("all have their candles yet", y.below(3), 27);
    }

    static void promise18OneWithoutCandlesIsNoHelp() {
        SpoonPassage x = three(50, 20, 20);
        x.set(0, 2, 0);
        due("the second", x.light(1, 20), 2);
        due("both that are lit", x.light(1, 40), 6);
        due("by none", x.light(1, 41), NONE);
    }

    static void promise18WithoutTheBoundOfTheNight() {
        due("ten nights", uncleInTheLastNight().light(10, 10), 1);
        due("eleven", uncleInTheLastNight().light(10, 11), NONE);
    }

    static void promise18NothingChanges() {
        Edges.changesNothing(Scenes::rich, x -> x.light(5, 400));
        Edges.changesNothing(Scenes::full, x -> x.light(1, 9999));
        Edges.changesNothing(Scenes::rich, x -> x.light(0, 0));
    }

    // ---- 19

    static void promise19DiggerIsOneThatIsThere() {
        due("the first", nuns().wax(0, 1, 1), 1);
        due("the last", nuns().wax(9, 1, 1), 1);
        Edges.refuses(BAD, Scenes::rich, (x, v) -> x.wax(v, 1, 1), -1, 6, LEAST, MOST);
        Edges.refuses(BAD, Scenes::bare, (x, v) -> x.wax(v, 1, 1), -1, 0);
    }

    static void promise19NIs0To30() {
        due("0", uncle().wax(0, 0, 0), 0);
        due("0", uncle().wax(0, 0, 1), NONE);
        due("30", uncle().wax(0, 30, 30), 1);
        due("30", uncle().wax(0, 30, 31), NONE);
        Edges.refuses(BAD, Scenes::rich, (x, v) -> x.wax(0, v, 1), -1, 31, LEAST, MOST);
    }

    static void promise19VIs0To9999() {
        due("0", uncle().wax(0, 30, 0), 0);
        due("9999", uncle().wax(0, 30, 9999), NONE);
        due("9999 is there", Scenes.withEarth(9999).wax(0, 0, 9999), 0);
        Edges.refuses(BAD, Scenes::rich, (x, v) -> x.wax(0, 1, v), -1, 10000, LEAST, MOST);
    }

    static void promise19EarthThatItHasCounts() {
        SpoonPassage x = Scenes.one(0, 7, 9);
        x.nights(2);
        due("as much", x.wax(0, 5, 14), 0);
        due("one more", x.wax(0, 5, 15), 1);
    }

    static void promise19Fewest() {
        // a son with 2 candles a night
        SpoonPassage x = Scenes.one(1, 4, 50);
        due("one night", x.wax(0, 30, 5), 1);
        due("two nights", x.wax(0, 30, 6), 3);
        due("two nights", x.wax(0, 30, 10), 3);
        due("thirty", x.wax(0, 30, 150), 59);
        due("by none", x.wax(0, 30, 151), NONE);
    }

    static void promise19MoreThanItHas() {
        // a lodger with 3 candles a night
        SpoonPassage x = Scenes.one(4, 2, 0);
        due("thirty nights", x.wax(0, 30, 30), 88);
        due("twenty-nine", x.wax(0, 30, 29), 85);
    }

    static void promise19OfThatDiggerAlone() {
        SpoonPassage x = Scenes.one(0, 7, 9);
        x.digger(0, 90, 99, 0);
        due("not what the other digs", x.wax(0, 1, 8), NONE);
        due("its own", x.wax(0, 1, 7), 1);
    }

    static void promise19WithoutTheBoundOfTheNight() {
        due("thirty nights", uncleInTheLastNight().wax(0, 30, 30), 1);
    }

    static void promise19NothingChanges() {
        Edges.changesNothing(Scenes::rich, x -> x.wax(3, 30, 9999));
        Edges.changesNothing(Scenes::full, x -> x.wax(9, 2, 1));
    }

    // ---- 20

    static void promise20DiggerIsOneThatIsThere() {
        due("the first", nuns().sent(0, 1, 1), 1);
        due("the last", nuns().sent(9, 1, 1), 1);
        Edges.refuses(BAD, Scenes::rich, (x, v) -> x.sent(v, 1, 0), -1, 6, LEAST, MOST);
        Edges.refuses(BAD, Scenes::bare, (x, v) -> x.sent(v, 1, 0), -1, 0);
    }

    static void promise20NIs1To60() {
        due("1", uncle().sent(0, 1, 1), 1);
        due("60", uncle().sent(0, 60, 1), 60);
        Edges.refuses(BAD, Scenes::rich, (x, v) -> x.sent(0, v, 1), 0, -1, 61, LEAST, MOST);
    }

    static void promise20WhatIs0Or1() {
        SpoonPassage x = uncle();
        x.branch(3, 1, 0);
        x.branch(0, 1, 1);
        due("0, the branch", x.sent(0, 5, 0), 3);
        due("1, earth", x.sent(0, 5, 1), 5);
        Edges.refuses(BAD, Scenes::rich, (y, v) -> y.sent(0, 1, v), -1, 2, LEAST, MOST);
    }

    private static int sentBy(int... rock) {
        SpoonPassage x = Scenes.still();
        for (int b = 0; b < 4; b++) {
            x.branch(b, 1, rock[b]);
        }
        x.digger(0, 50, 9, 2);
        return x.sent(0, 2, 0);
    }

    static void promise20OfSeveralTheLeast() {
        due("all alike", sentBy(5, 5, 5, 5), 0);
        due("the last three", sentBy(6, 5, 5, 5), 1);
        due("the last two", sentBy(6, 6, 5, 5), 2);
        due("the last", sentBy(6, 6, 6, 5), 3);
        due("none digs", sentBy(99, 99, 99, 99), 0);
    }

    static void promise20EarthThatItHasCounts() {
        SpoonPassage x = uncle();
        x.nights(5);
        due("five and three", x.sent(0, 3, 1), 8);
        SpoonPassage y = Scenes.withEarth(9990);
        y.branch(0, 0, 1);
        due("9999 at most", y.sent(0, 60, 1), 9999);
    }

    static void promise20WithoutTheBoundOfTheNight() {
        due("sixty nights", uncleInTheLastNight().sent(0, 60, 1), 60);
    }

    static void promise20NothingChanges() {
        Edges.changesNothing(Scenes::rich, x -> x.sent(0, 60, 0));
        Edges.changesNothing(Scenes::full, x -> x.sent(9, 2, 1));
    }

    // ---- 21

    static void promise21DiggerIsOneThatIsThere() {
        due("the first", nuns().becomes(0, 1, 1), 1);
        due("the last", nuns().becomes(9, 1, 1), 1);
        Edges.refuses(BAD, Scenes::rich, (x, v) -> x.becomes(v, 1, 0), -1, 6, LEAST, MOST);
        Edges.refuses(BAD, Scenes::bare, (x, v) -> x.becomes(v, 1, 0), -1, 0);
    }

    static void promise21NIs1To60() {
        due("1, a son", uncle().becomes(0, 1, 1), 3);
        due("60, an uncle", uncle().becomes(0, 60, 1), 60);
        Edges.refuses(BAD, Scenes::rich, (x, v) -> x.becomes(0, v, 1), 0, -1, 61, LEAST, MOST);
    }

    static void promise21WhatIs0Or1() {
        due("0, the kind", uncle().becomes(0, 60, 0), 2);
        due("1, earth", uncle().becomes(0, 60, 1), 60);
        Edges.refuses(BAD, Scenes::rich, (x, v) -> x.becomes(0, 1, v), -1, 2, LEAST, MOST);
    }

    static void promise21OfSeveralTheLeast() {
        due("son and boy", Scenes.one(5, 9, 9).becomes(0, 1, 0), 1);
        due("son, boy and nun", Scenes.one(5, 0, 9).becomes(0, 1, 0), 1);
        due("none has light", Scenes.one(5, 9, 0).becomes(0, 9, 0), 0);
        due("none has light", Scenes.one(5, 9, 0).becomes(0, 9, 1), 0);
        SpoonPassage x = Scenes.one(0, 40, 2);
        due("digger as son, for two nights with two candles: 80 to 41", x.becomes(0, 2, 0), 0);
    }

    static void promise21ABoy() {
        SpoonPassage x = Scenes.one(0, 99, 2);
        x.branch(0, 0, 500);
        due("far ahead he burns nothing", x.becomes(0, 9, 0), 3);
        due("half of 100 a night", x.becomes(0, 9, 1), 450);
    }

    static void promise21ALodger() {
        SpoonPassage x = Scenes.one(0, 0, 99);
        x.digger(2, 0, 9, 0);
        due("2 a night, by the uncle", x.becomes(0, 9, 0), 4);
        due("earth", x.becomes(0, 9, 1), 18);
    }

    static void promise21ANun() {
        // who digs 2 here wakes the other, who fills the branch with his one candle; who digs 1 is met and goes to
        // branch 1, where by this law only a nun digs on
        SpoonPassage x = new SpoonPassage();
        x.rule(0, 1);
        x.branch(0, 0, 990);
        x.branch(0, 2, 990);
        x.branch(1, 0, 500);
        x.digger(0, 1, 99, 0);
        x.digger(0, 0, 1, 0);
        Due.text(x, "dig (a>1)*99*(f=0)+(f=1)*(a<2)");
        due("kind", x.becomes(0, 9, 0), 5);
        due("earth", x.becomes(0, 9, 1), 9);
    }

    static void promise21WithoutTheBoundOfTheNight() {
        due("sixty nights", uncleInTheLastNight().becomes(0, 60, 1), 60);
    }

    static void promise21NothingChanges() {
        Edges.changesNothing(Scenes::rich, x -> x.becomes(0, 60, 0));
        Edges.changesNothing(Scenes::full, x -> x.becomes(9, 2, 1));
    }

    // ---- 22

    static void promise22SheetIs0To3() {
        SpoonPassage x = uncle();
        x.sheet(0, 0, 1);
        x.sheet(3, 0, 2);
        due("0", x.like(0, 1), 1);
        due("3", x.like(3, 1), 2);
        Edges.refuses(BAD, Scenes::rich, (y, v) -> y.like(v, 0), -1, 4, LEAST, MOST);
    }

    static void promise22WhatIs0Or1() {
        SpoonPassage x = uncle();
        x.branch(2, 0, 0);
        x.sheet(0, 0, 2);
        x.mark(0, 1, 3);
        due("0, the branch", x.like(0, 0), 0);
        due("1, the differences: 1 and 2 less than 3", x.like(0, 1), 2);
        Edges.refuses(BAD, Scenes::rich, (y, v) -> y.like(0, v), -1, 2, LEAST, MOST);
    }

    static void promise22NothingIfItIsMissing() {
        Edges.refuses(NOTHING, Scenes::rich, (x, v) -> x.like(3, v), 0, 1);
    }

    static void promise22BadStandsAheadOfNothing() {
        Edges.refuses(BAD, Scenes::rich, (x, v) -> x.like(3, v), -1, 2);
    }

    static void promise22ASheetWithoutPlaces() {
        SpoonPassage x = uncle();
        x.sheet(0, 0, 0);
        due("the least branch", x.like(0, 0), 0);
        due("no differences", x.like(0, 1), 0);
    }

    static void promise22PlacesThatAreNoNumbers() {
        SpoonPassage x = uncle();
        x.sheet(0, 1, 3);
        for (int k = 0; k < 3; k++) {
            x.mark(0, k, NONE);
        }
        due("none is one: the least branch", x.like(0, 0), 0);
        due("no differences", x.like(0, 1), 0);
        x.mark(0, 2, 8);
        due("place 2 is for two nights on", x.like(0, 1), 5);
    }

    static void promise22OfSeveralTheLeast() {
        SpoonPassage x = Scenes.still();
        x.sheet(0, 0, 1);
        x.mark(0, 0, 5);
        int[] dug = {4, 6, 5, 5};
        for (int b = 0; b < 4; b++) {
            x.branch(b, 0, dug[b]);
        }
        due("2 and 3", x.like(0, 0), 2);
        x.branch(1, 0, 5);
        due("1 too", x.like(0, 0), 1);
        x.branch(0, 0, 5);
        due("all", x.like(0, 0), 0);
        x.branch(3, 0, 6);
        x.branch(2, 0, 6);
        x.branch(1, 0, 6);
        x.branch(0, 0, 4);
        due("signs left out: 1 each", x.like(0, 0), 0);
        due("1", x.like(0, 1), 1);
    }

    static void promise22SignsAreLeftOutOfEach() {
        SpoonPassage x = Scenes.still();
        x.sheet(0, 0, 2);
        x.mark(0, 0, 0);
        x.mark(0, 1, 2);
        due("1 less and 1 more are 2 together", x.like(0, 1), 2);
    }

    static void promise22All24Places() {
        SpoonPassage x = uncle();
        x.sheet(0, 1, 24);
        for (int k = 0; k < 24; k++) {
            x.mark(0, k, k + 1);
        }
        due("as the uncle digs", x.like(0, 0), 0);
        due("no differences", x.like(0, 1), 0);
        x.mark(0, 23, 99999);
        due("the last place", x.like(0, 1), 99999 - 24);
    }

    static void promise22TheMostDifferences() {
        SpoonPassage x = Scenes.still();
        x.sheet(0, 1, 24);
        for (int k = 0; k < 24; k++) {
            x.mark(0, k, -99999);
        }
        for (int b = 0; b < 4; b++) {
            x.branch(b, 0, 999);
        }
        due("floats", x.like(0, 1), 24 * (99999 + 999));
        x.sheet(1, 0, 2);
        x.mark(1, 0, -32768);
        x.mark(1, 1, 32767);
        due("shorts", x.like(1, 1), 32768 + 999 + 32767 - 999);
    }

    static void promise22WithoutTheBoundOfTheNight() {
        SpoonPassage x = uncleInTheLastNight();
        x.sheet(0, 0, 4);
        x.mark(0, 3, 4);
        due("three nights on: 1, 2, 3 to 0, 0, 0, and 4", x.like(0, 1), Math.min(1 + 2 + 3, 1 + 1 + 1 + 3));
    }

    static void promise22NothingChanges() {
        for (int sheet = 0; sheet < 3; sheet++) {
            int s = sheet;
            Edges.changesNothing(Scenes::rich, x -> x.like(s, 0));
            Edges.changesNothing(Scenes::full, x -> x.like(s, 1));
        }
    }

    // ---- 23

    private static int fee(String sum) {
        SpoonPassage x = new SpoonPassage();
        due("a text", Due.text(x, "fee " + sum), 0);
        return x.fee();
    }

    static void promise23WithoutATextIsMet() {
        SpoonPassage x = new SpoonPassage();
        due("none", x.fee(), 0);
        x.digger(0, 0, 0, 0);
        x.nights(2);
        due("met", x.fee(), 8);
        Due.text(x, "fine 5");
        Due.text(x, "dig 6");
        due("texts of other keys", x.fee(), 8);
        Due.text(x, "fee 7");
        due("its own", x.fee(), 7);
    }

    static void promise23MetAndHillAtTheEnds() {
        SpoonPassage x = Scenes.withEarth(9999);
        Due.text(x, "fee h");
        due("hill", x.fee(), 9999);
        x.digger(0, 60, 9, 1);
        x.nights(1);
        due("above 9999", x.fee(), 10049);
        Due.text(x, "fee m");
        due("met, none", x.fee(), 0);
        SpoonPassage y = new SpoonPassage();
        y.digger(0, 0, 0, 0);
        y.nights(100);
        Due.text(y, "fee m");
        due("met, in each branch in each night", y.fee(), 400);
        Due.text(y, "fee h-m");
        due("hill, none", y.fee(), -400);
    }

    static void promise23IntsWrap() {
        due("the most", fee("2048*2048*512-1"), MOST);
        due("and 1", fee("2048*2048*512-1+1"), LEAST);
        due("the least", fee("2048*2048*512"), LEAST);
        due("less 1", fee("2048*2048*512-1"), MOST);
        due("twice", fee("2048*2048*512*2"), 0);
        due("9999 thrice", fee("9999*9999*9999"), 9999 * 9999 * 9999);
        due("the least by -1", fee("2048*2048*512/(0-1)"), LEAST);
        due("less the least", fee("0-2048*2048*512"), LEAST);
    }

    static void promise23ByZeroIs0() {
        due("5/0", fee("5/0"), 0);
        due("0/0", fee("0/0"), 0);
        due("-5/0", fee("(0-5)/0"), 0);
        due("and 3", fee("5/0+3"), 3);
        due("by a sum that is 0", fee("5/(3-3)"), 0);
        due("5/1", fee("5/1"), 5);
    }

    static void promise23CutsTowards0() {
        due("7/2", fee("7/2"), 3);
        due("-7/2", fee("(0-7)/2"), -3);
        due("7/-2", fee("7/(0-2)"), -3);
        due("-7/-2", fee("(0-7)/(0-2)"), 3);
        due("1/2", fee("1/2"), 0);
        due("-1/2", fee("(0-1)/2"), 0);
    }

    static void promise23TestsGive1Or0() {
        due("2<3", fee("2<3"), 1);
        due("3<3", fee("3<3"), 0);
        due("4<3", fee("4<3"), 0);
        due("2>3", fee("2>3"), 0);
        due("3>3", fee("3>3"), 0);
        due("4>3", fee("4>3"), 1);
        due("2=3", fee("2=3"), 0);
        due("3=3", fee("3=3"), 1);
        due("-1<0", fee("0-1<0"), 1);
        due("least<most", fee("2048*2048*512<2048*2048*512-1"), 1);
    }

    static void promise23WhatIsNot0IsTrue() {
        due("!0", fee("!0"), 1);
        due("!1", fee("!1"), 0);
        due("!2", fee("!2"), 0);
        due("!-1", fee("!(0-1)"), 0);
        due("2&3", fee("2&3"), 1);
        due("-1&-1", fee("(0-1)&(0-1)"), 1);
        due("0&3", fee("0&3"), 0);
        due("2&0", fee("2&0"), 0);
        due("0&0", fee("0&0"), 0);
        due("4&2, no bits in common", fee("4&2"), 1);
        due("0|0", fee("0|0"), 0);
        due("0|-1", fee("0|(0-1)"), 1);
        due("2|0", fee("2|0"), 1);
        due("2|4", fee("2|4"), 1);
    }

    static void promise23NothingChanges() {
        Edges.changesNothing(Scenes::rich, x -> x.fee());
        Edges.changesNothing(Scenes::full, x -> x.fee());
    }

    // ---- 24

    static void promise24DiggerIsOneThatIsThere() {
        SpoonPassage x = new SpoonPassage();
        x.digger(0, 50, 12, 0);
        x.digger(0, 60, 0, 0);
        due("the first", x.fine(0), 12);
        due("the last", x.fine(1), 0);
        Edges.refuses(BAD, Scenes::rich, (y, v) -> y.fine(v), -1, 6, LEAST, MOST);
        Edges.refuses(BAD, Scenes::full, (y, v) -> y.fine(v), -1, 10);
        Edges.refuses(BAD, Scenes::bare, (y, v) -> y.fine(v), -1, 0);
    }

    static void promise24WithoutATextIsCandles() {
        SpoonPassage x = Scenes.one(0, 50, 99);
        due("99", x.fine(0), 99);
        x.set(0, 2, 0);
        due("0", x.fine(0), 0);
        Due.text(x, "fee 5");
        Due.text(x, "dig 6");
        due("texts of other keys", x.fine(0), 0);
        Due.text(x, "fine 7");
        due("its own", x.fine(0), 7);
    }

    static void promise24ForceAndCandlesAtTheEnds() {
        SpoonPassage x = Scenes.one(0, 99, 0);
        Due.text(x, "fine f*100+c");
        due("99 and 0", x.fine(0), 9900);
        x.set(0, 1, 0);
        x.set(0, 2, 99);
        due("0 and 99", x.fine(0), 99);
        Due.text(x, "fine 0-f-c");
        due("below 0, not held", x.fine(0), -99);
        Due.text(x, "fine c*c");
        due("above 99, not held", x.fine(0), 9801);
    }

    static void promise24NothingChanges() {
        Edges.changesNothing(Scenes::rich, x -> x.fine(3));
        Edges.changesNothing(Scenes::full, x -> x.fine(9));
    }
}
