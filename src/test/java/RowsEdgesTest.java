import java.util.List;

/** The edges of promises 39 to 43: numbers that wait, images, counts. */
public final class RowsEdgesTest {
    private static final int BAD = Due.BAD, NO = Due.NO, FULL = Due.FULL, NONE = Due.NONE;
    private static final int LEAST = Edges.LEAST, MOST = Edges.MOST;

    private static void due(String what, int got, int want) {
        Edges.due(what, got, want);
    }

    public static void main(String[] args) {
        Edges.run(RowsEdgesTest.class);
    }

    // ---- 39

    static void promise39HowManyWait() {
        SpoonPassage x = new SpoonPassage();
        for (int i = 1; i <= 60; i++) {
            due("waits", x.tell(i), i);
        }
        due("60", x.count(7), 60);
    }

    static void promise39FullIf60Wait() {
        SpoonPassage x = new SpoonPassage();
        for (int i = 1; i <= 59; i++) {
            x.tell(0);
        }
        due("the 60th", x.tell(0), 60);
        due("the 61st", x.tell(0), FULL);
        due("60", x.count(7), 60);
    }

    static void promise39FullChangesNothing() {
        Edges.refuses(FULL, Scenes::full, (x, v) -> x.tell(v), 0, LEAST, MOST);
    }

    static void promise39AnyInt() {
        SpoonPassage x = new SpoonPassage();
        int many = 0;
        for (int v : new int[] {LEAST, MOST, 0, -1, BAD, NONE}) {
            many++;
            due("waits", x.tell(v), many);
        }
    }

    static void promise39AnewBehindACheck() {
        SpoonPassage x = new SpoonPassage();
        x.tell(1);
        x.tell(2);
        x.check(1);
        due("the first again", x.tell(3), 1);
    }

    // ---- 40

    /** An uncle who digs 1 a night; the image is as it is now. 4 is dug at first. */
    private static SpoonPassage kept() {
        SpoonPassage x = Scenes.one(2, 2, 1);
        x.keep();
        return x;
    }

    private static int check(SpoonPassage x, int n, int... rows) {
        for (int v : rows) {
            x.tell(v);
        }
        return x.check(n);
    }

    private static int[] uncles(int n) {
        int[] rows = new int[2 * n];
        for (int i = 0; i < n; i++) {
            rows[2 * i + 1] = 5 + i;
        }
        return rows;
    }

    static void promise40NIs1To30() {
        due("1", check(kept(), 1, uncles(1)), 0);
        due("30", check(kept(), 30, uncles(30)), 0);
        for (int n : new int[] {0, -1, 31, LEAST, MOST}) {
            due("n " + n, check(kept(), n, uncles(30)), BAD);
        }
    }

    static void promise40BadChangesNothingButWhatWaits() {
        for (int n : new int[] {0, 31, LEAST, MOST}) {
            SpoonPassage x = Scenes.rich();
            due("n " + n, x.check(n), BAD);
            due("none wait", x.count(7), 0);
            Edges.same("all else is as it was", x, Scenes.untold());
        }
    }

    static void promise40NoIfThereIsNoImage() {
        for (int n : new int[] {1, 30}) {
            SpoonPassage x = Scenes.silent();
            due("n " + n, check(x, n, 1, 2, 3), NO);
            due("none wait", x.count(7), 0);
            Edges.same("all else is as it was", x, Scenes.silent());
        }
    }

    static void promise40BadStandsAheadOfNo() {
        due("0", new SpoonPassage().check(0), BAD);
        due("31", new SpoonPassage().check(31), BAD);
    }

    static void promise40NoneWaitThenWhateverIsAnswered() {
        SpoonPassage x = kept();
        due("as they are", check(x, 1, 0, 5), 0);
        due("none", x.count(7), 0);
        due("one is not", check(x, 1, 0, 6), 2);
        due("none", x.count(7), 0);
        due("too many", check(x, 1, 0, 5, 9, 9), 3);
        due("none", x.count(7), 0);
        due("bad", check(x, 0, 0, 5), BAD);
        due("none", x.count(7), 0);
        SpoonPassage y = new SpoonPassage();
        due("no", check(y, 1, 0, 5), NO);
        due("none", y.count(7), 0);
    }

    static void promise40TheFirstThatIsNot() {
        for (int wrong = 0; wrong < 60; wrong++) {
            int[] rows = uncles(30);
            rows[wrong]++;
            due("place " + wrong, check(kept(), 30, rows), 1 + wrong);
            rows[59]--;
            due("not another behind it", check(kept(), 30, rows), 1 + wrong == 60 ? 0 : 1 + wrong);
        }
    }

    static void promise40TheFirstThatIsMissing() {
        int[] rows = uncles(30);
        for (int many = 0; many < 60; many++) {
            due("of " + many, check(kept(), 30, java.util.Arrays.copyOf(rows, many)), 1 + many);
        }
    }

    static void promise40OneTooMany() {
        due("one", check(kept(), 1, 0, 5, 0), 3);
        due("two, though the next night is so", check(kept(), 1, 0, 5, 0, 6), 3);
        due("two of thirty", check(kept(), 29, uncles(30)), 59);
        due("a wrong one stands ahead of it", check(kept(), 1, 0, 4, 0), 2);
    }

    static void promise40NoneToldOfOneNight() {
        due("missing", check(kept(), 1), 1);
    }

    private static SpoonPassage keptInTheNight(int night) {
        SpoonPassage x = Scenes.atNight(Scenes.still(), night);
        x.digger(2, 2, 1, 0);
        x.keep();
        return x;
    }

    static void promise40FewerIfTheNightWouldBeAbove9999() {
        due("30 are left", check(keptInTheNight(9969), 30, uncles(30)), 0);
        due("29 are left", check(keptInTheNight(9970), 30, uncles(29)), 0);
        due("29 are left, 30 told", check(keptInTheNight(9970), 30, uncles(30)), 59);
        due("one is left", check(keptInTheNight(9998), 30, uncles(1)), 0);
        due("one is left", check(keptInTheNight(9998), 1, uncles(1)), 0);
        due("one is left, none told", check(keptInTheNight(9998), 1), 1);
        due("none is left", check(keptInTheNight(9999), 30), 0);
        due("none is left, one told", check(keptInTheNight(9999), 1, 0), 1);
        due("two are left, one asked for", check(keptInTheNight(9997), 1, uncles(1)), 0);
    }

    static void promise40TheNightOfTheImageCounts() {
        SpoonPassage x = kept();
        Scenes.atNight(x, 9999);
        due("thirty from there", check(x, 30, uncles(30)), 0);
    }

    static void promise40ByTheImage() {
        SpoonPassage x = kept();
        x.digger(0, 90, 90, 0);
        x.rule(0, 99);
        x.branch(2, 0, 500);
        x.seed(99);
        Due.text(x, "dig 99");
        due("as it was kept", check(x, 3, uncles(3)), 0);
    }

    static void promise40MetAndDugOfAllTogether() {
        SpoonPassage x = new SpoonPassage();
        x.branch(1, 0, 100);
        x.branch(2, 0, 200);
        x.branch(3, 0, 300);
        x.digger(0, 20, 2, 1);
        x.digger(0, 0, 0, 0);
        x.keep();
        due("met by number, dug of all", check(x, 3, 1, 610, 1, 620, 1, 620), 0);
    }

    static void promise40RockFallsAsItWillByTheImage() {
        List<Integer> rows = Scenes.rows(ofRock(), 30);
        SpoonPassage x = ofRock();
        x.keep();
        x.nights(7);
        for (int v : rows) {
            x.tell(v);
        }
        due("thirty", x.check(30), 0);
    }

    private static SpoonPassage ofRock() {
        SpoonPassage x = new SpoonPassage();
        x.seed(31);
        x.deal(10);
        x.rule(1, 60);
        return x;
    }

    static void promise40NothingElseChanges() {
        SpoonPassage x = Scenes.rich();
        due("two nights", x.check(2), 0);
        Edges.same("but what waits", x, Scenes.untold());
    }

    // ---- 41

    static void promise41HowManyDiggers() {
        SpoonPassage x = new SpoonPassage();
        due("none", x.keep(), 0);
        for (int i = 1; i <= 10; i++) {
            x.digger(0, 0, 0, 0);
            due("keeps", x.keep(), i);
        }
    }

    static void promise41NothingElseChanges() {
        SpoonPassage x = Scenes.untold();
        x.keep();
        SpoonPassage y = Scenes.untold();
        for (int what = 0; what < 10; what++) {
            due("count " + what, x.count(what), y.count(what));
        }
        for (int d = 0; d < 6; d++) {
            for (int what = 0; what < 8; what++) {
                due("digger " + d + ", " + what, x.told(d, what), y.told(d, what));
            }
        }
    }

    static void promise41TheLastOneCounts() {
        SpoonPassage x = new SpoonPassage();
        x.digger(0, 1, 1, 1);
        x.keep();
        x.set(0, 1, 2);
        x.digger(0, 3, 3, 3);
        due("two", x.keep(), 2);
        x.set(0, 1, 4);
        due("back", x.back(), 2);
        due("as it was then", x.told(0, 1), 2);
    }

    static void promise41AnImageOfFewerThanBefore() {
        SpoonPassage x = new SpoonPassage();
        x.keep();
        x.digger(0, 50, 50, 1);
        x.back();
        due("none", x.keep(), 0);
        due("none", x.back(), 0);
    }

    static void promise41WhatComesLaterIsNotInIt() {
        SpoonPassage x = Scenes.silent();
        x.keep();
        SpoonPassage y = Scenes.silent();
        y.keep();
        y.turns(0, 5);
        y.set(1, 1, 1);
        y.set(2, 2, 2);
        y.sends(3, 0);
        y.branch(0, 0, 999);
        y.branch(1, 1, 99);
        y.branch(2, 2, 0);
        y.rule(0, 99);
        y.rule(1, 100);
        y.seed(5);
        y.deal(4);
        Due.text(y, "dig 1");
        y.nights(9);
        y.back();
        Edges.same("is as it was", y, x);
    }

    // ---- 42

    static void promise42NoIfThereIsNone() {
        Edges.refuses(NO, Scenes::bare, x -> x.back(), "none");
        Edges.refuses(NO, Scenes::silent, x -> x.back(), "none");
    }

    static void promise42AllIsAsTheImage() {
        SpoonPassage x = Scenes.silent();
        x.nights(3);
        SpoonPassage y = Scenes.silent();
        y.nights(3);
        y.keep();
        x.keep();
        y.nights(50);
        due("six", y.back(), 6);
        Edges.same("as it was", y, x);
    }

    static void promise42AgainAndAgain() {
        SpoonPassage x = Scenes.silent();
        x.keep();
        for (int again = 0; again < 5; again++) {
            due("hill", x.nights(4), x.below(2));
            x.deal(2);
            x.seed(again);
            due("six", x.back(), 6);
            due("hill", x.below(2), 0);
            due("z", x.count(9), 7);
            due("the night", x.count(1), 0);
        }
        SpoonPassage y = Scenes.silent();
        y.keep();
        Edges.same("as it was", x, y);
    }

    static void promise42AllButSheetsSlotsNumbersAndTape() {
        SpoonPassage x = new SpoonPassage();
        x.digger(0, 1, 1, 1);
        x.keep();
        x.sheet(1, 0, 2);
        x.mark(1, 1, 44);
        x.lay(0, 2, 1);
        x.lay(1, 1, 0);
        x.lay(2, 3, 33);
        x.tell(5);
        Due.tape(x, "fee 12");
        due("back", x.back(), 1);
        due("the sheet is there", x.mark(1, 2, 0), -1000000013);
        due("its place too", x.lay(4, 2, 1), 0);
        due("its place too", x.item(4, 1), 44);
        due("slot 0", x.item(0, 1), 44);
        due("slot 1", x.ask(1, 0), 1);
        due("slot 2", x.rest(2, 10), 3);
        due("what waits", x.count(7), 1);
        due("bytes", x.count(8), 6);
        due("the tape", x.text(), 0);
        due("gives", x.fee(), 12);
    }

    static void promise42ASheetThatWasThereThenStaysAsItIs() {
        SpoonPassage x = new SpoonPassage();
        x.sheet(0, 0, 2);
        x.lay(0, 3, 7);
        x.tell(1);
        x.feed(0, 0, 0);
        x.keep();
        x.sheet(0, -1, 0);
        x.lay(0, 0, 0);
        x.check(1);
        x.trim(0);
        x.back();
        due("missing", x.reads(0), Due.NOTHING);
        due("nothing", x.rest(0, 1), Due.NOTHING);
        due("none wait", x.count(7), 0);
        due("no bytes", x.count(8), 0);
    }

    static void promise42TextsOfTheImage() {
        SpoonPassage x = new SpoonPassage();
        for (int i = 0; i < 13; i++) {
            Scenes.short12(x, "fee " + i);
        }
        x.keep();
        for (int again = 0; again < 3; again++) {
            due("one more", Scenes.short12(x, "fee 9" + again), 13);
            due("it counts", x.fee(), 90 + again);
            due("no more", Scenes.short12(x, "fee 0"), FULL);
            x.back();
            due("thirteen", x.count(6), 13);
            due("the last of them counts", x.fee(), 12);
        }
    }

    static void promise42TheNightGoesOnFromThere() {
        SpoonPassage x = Scenes.atNight(new SpoonPassage(), 9998);
        x.keep();
        x.nights(5);
        due("9999", x.count(1), 9999);
        x.back();
        due("9998", x.count(1), 9998);
        x.nights(1);
        due("9999", x.count(1), 9999);
    }

    static void promise42ByTenAndByNone() {
        SpoonPassage x = new SpoonPassage();
        x.keep();
        x.deal(10);
        due("none", x.back(), 0);
        x.deal(10);
        x.keep();
        due("ten", x.back(), 10);
        due("no room", x.digger(0, 0, 0, 0), FULL);
    }

    // ---- 43

    static void promise43WhatIs0To9() {
        SpoonPassage x = Scenes.rich();
        int[] is = {6, 3, 5, 35, x.below(0), x.below(1), 3, 4, 12};
        for (int what = 0; what < is.length; what++) {
            due("what " + what, x.count(what), is[what]);
        }
        x.seed(-123);
        due("what 9", x.count(9), -123);
        Edges.refuses(BAD, Scenes::rich, (y, v) -> y.count(v), -1, 10, LEAST, MOST);
    }

    static void promise43AtTheMost() {
        SpoonPassage x = Scenes.full();
        due("diggers", x.count(0), 10);
        due("texts", x.count(6), 14);
        due("numbers", x.count(7), 60);
        due("bytes", x.count(8), 96);
        SpoonPassage y = Scenes.atNight(new SpoonPassage(), 9999);
        due("the night", y.count(1), 9999);
        y.rule(0, 99);
        y.rule(1, 100);
        due("step", y.count(2), 99);
        due("fall", y.count(3), 100);
    }

    static void promise43MetAndFalls() {
        SpoonPassage x = new SpoonPassage();
        x.rule(1, 100);
        x.digger(0, 0, 0, 0);
        x.nights(100);
        due("met", x.count(4), 400);
        due("falls", x.count(5), 100);
    }

    static void promise43NothingChanges() {
        for (int what = 0; what < 10; what++) {
            int w = what;
            Edges.changesNothing(Scenes::rich, x -> x.count(w));
        }
    }
}
