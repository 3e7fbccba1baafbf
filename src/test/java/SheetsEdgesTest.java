/** The edges of promises 30 to 38: sheets and slots. */
public final class SheetsEdgesTest {
    private static final int BAD = Due.BAD, NO = Due.NO, NONE = Due.NONE;
    private static final int NOTHING = Due.NOTHING, KIND = Due.KIND, INDEX = Due.INDEX, SIZE = Due.SIZE;
    private static final int LEAST = Edges.LEAST, MOST = Edges.MOST, SHORTS = 0, FLOATS = 1;

    private static void due(String what, int got, int want) {
        Edges.due(what, got, want);
    }

    public static void main(String[] args) {
        Edges.run(SheetsEdgesTest.class);
    }

    /** Just these places stand in a sheet; NONE is no number. Slot 4 is used for it. */
    private static void row(SpoonPassage x, int sheet, int... want) {
        x.lay(4, 2, sheet);
        for (int i = 0; i < want.length; i++) {
            due("sheet " + sheet + ", place " + i, x.item(4, i), want[i] == NONE ? KIND : want[i]);
        }
        due("sheet " + sheet + ", no more", x.item(4, want.length), INDEX);
    }

    private static void fill(SpoonPassage x, int sheet, int sort, int... row) {
        x.sheet(sheet, sort, row.length);
        for (int i = 0; i < row.length; i++) {
            x.mark(sheet, i, row[i]);
        }
    }

    // ---- 30

    static void promise30SheetIs0To3() {
        SpoonPassage x = new SpoonPassage();
        for (int s = 0; s < 4; s++) {
            due("sheet " + s, x.sheet(s, SHORTS, s + 1), s + 1);
        }
        for (int s = 0; s < 4; s++) {
            row(x, s, new int[s + 1]);
        }
        Edges.refuses(BAD, Scenes::rich, (y, v) -> y.sheet(v, SHORTS, 1), -1, 4, LEAST, MOST);
    }

    static void promise30SortIsMinus1To1() {
        SpoonPassage x = new SpoonPassage();
        due("shorts", x.sheet(0, 0, 2), 2);
        due("have no place for no number", x.mark(0, 0, NONE), KIND);
        due("floats", x.sheet(0, 1, 2), 2);
        due("have", x.mark(0, 0, NONE), 1);
        due("missing", x.sheet(0, -1, 2), 0);
        due("is", x.reads(0), NOTHING);
        Edges.refuses(BAD, Scenes::rich, (y, v) -> y.sheet(0, v, 1), -2, 2, LEAST, MOST);
    }

    static void promise30NIs0To24() {
        for (int sort = 0; sort < 2; sort++) {
            SpoonPassage x = new SpoonPassage();
            due("0", x.sheet(0, sort, 0), 0);
            due("no place", x.mark(0, 0, 1), INDEX);
            due("24", x.sheet(0, sort, 24), 24);
            due("the last", x.mark(0, 23, 1), 1);
            due("no more", x.mark(0, 24, 1), INDEX);
            int s = sort;
            Edges.refuses(BAD, Scenes::rich, (y, v) -> y.sheet(0, s, v), 25, 26, MOST);
        }
    }

    static void promise30SizeIfItIsBelow0() {
        Edges.refuses(SIZE, Scenes::rich, (x, v) -> x.sheet(0, SHORTS, v), -1, -25, LEAST);
        Edges.refuses(SIZE, Scenes::rich, (x, v) -> x.sheet(0, FLOATS, v), -1, -25, LEAST);
        Edges.refuses(SIZE, Scenes::rich, (x, v) -> x.sheet(3, FLOATS, v), -1);
    }

    static void promise30BadStandsAheadOfSize() {
        Edges.refuses(BAD, Scenes::rich, (x, v) -> x.sheet(v, SHORTS, -1), -1, 4);
        Edges.refuses(BAD, Scenes::rich, (x, v) -> x.sheet(0, v, -1), -2, 2);
    }

    static void promise30MissingWithAnyN() {
        for (int n : new int[] {0, 1, 24, 25, -1, LEAST, MOST}) {
            SpoonPassage x = new SpoonPassage();
            x.sheet(2, SHORTS, 3);
            due("n " + n, x.sheet(2, -1, n), 0);
            due("is missing", x.pour(2), NOTHING);
            due("again", x.sheet(2, -1, n), 0);
        }
        Edges.refuses(BAD, Scenes::rich, (y, v) -> y.sheet(v, -1, 1), -1, 4);
    }

    static void promise30All0() {
        SpoonPassage x = new SpoonPassage();
        fill(x, 0, FLOATS, 5, NONE, -99999);
        x.sheet(0, FLOATS, 3);
        row(x, 0, 0, 0, 0);
        fill(x, 0, FLOATS, 5, NONE, -99999);
        x.sheet(0, SHORTS, 3);
        row(x, 0, 0, 0, 0);
        x.sheet(0, SHORTS, 0);
        x.sheet(0, SHORTS, 1);
        row(x, 0, 0);
        fill(x, 0, SHORTS, 1, 2, 3);
        x.sheet(0, -1, 0);
        x.sheet(0, SHORTS, 3);
        row(x, 0, 0, 0, 0);
    }

    static void promise30OtherSheetsStay() {
        SpoonPassage x = new SpoonPassage();
        fill(x, 0, SHORTS, 1, 2);
        fill(x, 1, SHORTS, 3, 4);
        x.sheet(0, -1, 0);
        x.sheet(2, FLOATS, 24);
        row(x, 1, 3, 4);
    }

    // ---- 31

    static void promise31SheetIs0To3() {
        SpoonPassage x = new SpoonPassage();
        x.sheet(0, SHORTS, 1);
        x.sheet(3, SHORTS, 1);
        due("0", x.mark(0, 0, 5), 1);
        due("3", x.mark(3, 0, 6), 1);
        row(x, 0, 5);
        row(x, 3, 6);
        Edges.refuses(BAD, Scenes::rich, (y, v) -> y.mark(v, 0, 5), -1, 4, LEAST, MOST);
    }

    static void promise31NothingIfItIsMissing() {
        Edges.refuses(NOTHING, Scenes::rich, (x, v) -> x.mark(3, v, 5), 0, -1, 24);
    }

    static void promise31PlaceIsOneThatIsThere() {
        SpoonPassage x = Scenes.rich();
        due("the first", x.mark(0, 0, 5), 1);
        due("the last", x.mark(0, 2, 6), 1);
        row(x, 0, 5, 0, 6);
        Edges.refuses(INDEX, Scenes::rich, (y, v) -> y.mark(0, v, 5), -1, 3, 24, LEAST, MOST);
        Edges.refuses(INDEX, Scenes::rich, (y, v) -> y.mark(1, v, 5), -1, 4, LEAST, MOST);
        Edges.refuses(INDEX, Scenes::rich, (y, v) -> y.mark(2, v, 5), -1, 0);
        Edges.refuses(INDEX, Scenes::full, (y, v) -> y.mark(0, v, 5), -1, 24);
    }

    static void promise31KindIfShortsGetNoNumber() {
        Edges.refuses(KIND, Scenes::rich, x -> x.mark(0, 0, NONE), "no number");
        SpoonPassage x = Scenes.rich();
        due("just above it", x.mark(0, 0, NONE + 1), 1);
        due("just below it", x.mark(0, 1, NONE - 1), 1);
        row(x, 0, (short) (NONE + 1), (short) (NONE - 1), -9);
    }

    static void promise31ShortsTakeTheLowest16Bits() {
        int[] v = {0, 1, -1, 32767, 32768, 65535, 65536, 65537, -32768, -32769, LEAST, MOST, BAD, 0x12345678};
        int[] is = {0, 1, -1, 32767, -32768, -1, 0, 1, -32768, 32767, 0, -1, (short) BAD, 0x5678};
        SpoonPassage x = new SpoonPassage();
        fill(x, 0, SHORTS, v);
        row(x, 0, is);
    }

    static void promise31FloatsAreWithin99999() {
        SpoonPassage x = new SpoonPassage();
        fill(x, 0, FLOATS, 99999, -99999, 0, 32768, -32769, 65536, 99998);
        row(x, 0, 99999, -99999, 0, 32768, -32769, 65536, 99998);
        Edges.refuses(BAD, Scenes::rich, (y, v) -> y.mark(1, 3, v), 100000, -100000, LEAST, MOST, BAD, NONE + 1, NONE - 1);
    }

    static void promise31AFloatMayBeNoNumber() {
        SpoonPassage x = new SpoonPassage();
        fill(x, 0, FLOATS, 1, 2, 3);
        due("no number", x.mark(0, 1, NONE), 1);
        row(x, 0, 1, NONE, 3);
        due("a number again", x.mark(0, 1, 4), 1);
        row(x, 0, 1, 4, 3);
    }

    static void promise31WhatStandsFirst() {
        due("bad, not index", Scenes.rich().mark(4, -1, NONE), BAD);
        due("nothing, not index", Scenes.rich().mark(3, -1, NONE), NOTHING);
        due("index, not kind", Scenes.rich().mark(0, 3, NONE), INDEX);
        due("index, not bad of floats", Scenes.rich().mark(1, 4, 100000), INDEX);
        due("index, not bad of floats", Scenes.rich().mark(1, -1, -100000), INDEX);
    }

    // ---- 32

    private static SpoonPassage four() {
        SpoonPassage x = new SpoonPassage();
        for (int i = 0; i < 4; i++) {
            x.digger(i, 0, 10 + i, i);
        }
        return x;
    }

    private static void candles(SpoonPassage x, int... want) {
        for (int i = 0; i < want.length; i++) {
            due("candles " + i, x.told(i, 2), want[i]);
        }
    }

    static void promise32SheetIs0To3() {
        SpoonPassage x = four();
        fill(x, 0, SHORTS, 20);
        fill(x, 3, SHORTS, 30);
        due("0", x.pour(0), 1);
        candles(x, 20, 11, 12, 13);
        due("3", x.pour(3), 1);
        candles(x, 30, 11, 12, 13);
        Edges.refuses(BAD, Scenes::rich, (y, v) -> y.pour(v), -1, 4, LEAST, MOST);
    }

    static void promise32NothingIfItIsMissing() {
        Edges.refuses(NOTHING, Scenes::rich, x -> x.pour(3), "missing");
    }

    static void promise32EachHeldWithin0And99() {
        SpoonPassage x = four();
        fill(x, 0, FLOATS, 0, 1, 98, 99);
        due("within", x.pour(0), 4);
        candles(x, 0, 1, 98, 99);
        fill(x, 0, FLOATS, 100, -1, -99999, 99999);
        due("beyond, the last is 99 already", x.pour(0), 3);
        candles(x, 99, 0, 0, 99);
        SpoonPassage y = four();
        fill(y, 0, SHORTS, -32768, 32767, -1, 100);
        due("shorts", y.pour(0), 4);
        candles(y, 0, 99, 0, 99);
        due("again", y.pour(0), 0);
    }

    static void promise32NoNumberStays() {
        SpoonPassage x = four();
        fill(x, 0, FLOATS, NONE, 50, NONE, 60);
        due("two", x.pour(0), 2);
        candles(x, 10, 50, 12, 60);
        fill(x, 0, FLOATS, NONE, NONE, NONE, NONE);
        due("none", x.pour(0), 0);
        candles(x, 10, 50, 12, 60);
    }

    static void promise32BeyondTheSheetStays() {
        for (int n = 0; n <= 4; n++) {
            SpoonPassage x = four();
            x.sheet(0, SHORTS, n);
            due("of " + n, x.pour(0), n);
            for (int i = 0; i < 4; i++) {
                due("candles " + i, x.told(i, 2), i < n ? 0 : 10 + i);
            }
        }
    }

    static void promise32BeyondTheDiggersIsNobody() {
        SpoonPassage x = four();
        x.sheet(0, SHORTS, 24);
        for (int i = 4; i < 24; i++) {
            x.mark(0, i, 77);
        }
        due("four", x.pour(0), 4);
        x.digger(0, 0, 9, 0);
        due("who comes later has his own", x.told(4, 2), 9);
        SpoonPassage y = new SpoonPassage();
        y.sheet(0, SHORTS, 24);
        due("nobody", y.pour(0), 0);
        SpoonPassage z = new SpoonPassage();
        for (int i = 0; i < 10; i++) {
            z.digger(0, 0, 1, 0);
        }
        z.sheet(0, SHORTS, 24);
        due("all ten", z.pour(0), 10);
        due("have none", z.below(3), 0);
    }

    static void promise32HowManyAreOtherwise() {
        SpoonPassage x = four();
        fill(x, 0, SHORTS, 10, 11, 12, 13);
        due("none", x.pour(0), 0);
        x.mark(0, 2, 14);
        due("one", x.pour(0), 1);
        due("none then", x.pour(0), 0);
        x.set(0, 2, 99);
        x.mark(0, 0, 500);
        due("held at what it is", x.pour(0), 0);
    }

    static void promise32TheSheetStays() {
        SpoonPassage x = four();
        fill(x, 0, FLOATS, 500, NONE, -3);
        x.pour(0);
        row(x, 0, 500, NONE, -3);
    }

    // ---- 33

    static void promise33SheetIs0To3() {
        SpoonPassage x = four();
        fill(x, 0, SHORTS, 0, 9);
        fill(x, 3, SHORTS, 9);
        due("0", x.reads(0), 1);
        due("3", x.reads(3), 0);
        Edges.refuses(BAD, Scenes::rich, (y, v) -> y.reads(v), -1, 4, LEAST, MOST);
    }

    static void promise33NothingIfItIsMissing() {
        Edges.refuses(NOTHING, Scenes::rich, x -> x.reads(3), "missing");
    }

    static void promise33NoneIfThereIsNone() {
        SpoonPassage x = four();
        fill(x, 0, SHORTS, 0, 1, 2, 3);
        due("all are", x.reads(0), NONE);
        fill(x, 0, SHORTS, 0, 1, 2);
        due("fewer are", x.reads(0), NONE);
        x.sheet(0, SHORTS, 0);
        due("no places", x.reads(0), NONE);
        Edges.refuses(NONE, Scenes::rich, y -> y.reads(2), "no places");
    }

    static void promise33TheFirstPlace() {
        for (int wrong = 0; wrong < 4; wrong++) {
            for (int by : new int[] {-1, 1}) {
                SpoonPassage x = four();
                fill(x, 0, SHORTS, 0, 1, 2, 3);
                x.mark(0, wrong, wrong + by);
                x.mark(0, 3, 3 + by);
                due("place " + wrong, x.reads(0), wrong);
            }
        }
    }

    static void promise33OfNumbersAlone() {
        SpoonPassage x = four();
        fill(x, 0, FLOATS, NONE, NONE, 2, 9);
        due("the last", x.reads(0), 3);
        x.mark(0, 3, NONE);
        due("none", x.reads(0), NONE);
    }

    static void promise33PlacesThatAreNoDigger() {
        SpoonPassage x = four();
        fill(x, 0, SHORTS, 0, 1, 2, 3, 0);
        due("the fifth", x.reads(0), 4);
        SpoonPassage y = new SpoonPassage();
        y.sheet(0, SHORTS, 1);
        due("nobody is there", y.reads(0), 0);
        SpoonPassage z = four();
        z.sheet(0, FLOATS, 24);
        for (int i = 0; i < 24; i++) {
            z.mark(0, i, i < 4 ? i : NONE);
        }
        due("no numbers there", z.reads(0), NONE);
        z.mark(0, 23, 0);
        due("the last of 24", z.reads(0), 23);
    }

    static void promise33ADiggerOfTheImageIsNoneNow() {
        SpoonPassage x = new SpoonPassage();
        x.keep();
        x.digger(0, 0, 0, 0);
        x.sheet(0, SHORTS, 1);
        due("it is there", x.reads(0), NONE);
        x.back();
        due("it is gone", x.reads(0), 0);
    }

    static void promise33NothingChanges() {
        for (int s = 0; s < 4; s++) {
            int sheet = s;
            Edges.changesNothing(Scenes::rich, x -> x.reads(sheet));
        }
    }

    // ---- 34

    /** Sheets: 0 five shorts, 1 three shorts, 2 four floats, 3 missing. */
    private static SpoonPassage rows() {
        SpoonPassage x = Scenes.untold();
        fill(x, 0, SHORTS, 1, 2, 3, 4, 5);
        fill(x, 1, SHORTS, 6, 7, 8);
        fill(x, 2, FLOATS, 9, NONE, 11, -99999);
        return x;
    }

    static void promise34SheetsAre0To3() {
        Edges.refuses(BAD, SheetsEdgesTest::rows, (x, v) -> x.copy(v, 0, 0, 0, 1), -1, 4, LEAST, MOST);
        Edges.refuses(BAD, SheetsEdgesTest::rows, (x, v) -> x.copy(0, 0, v, 0, 1), -1, 4, LEAST, MOST);
        SpoonPassage x = rows();
        x.sheet(3, SHORTS, 1);
        due("to 3", x.copy(0, 4, 3, 0, 1), 1);
        row(x, 3, 5);
        due("from 3", x.copy(3, 0, 0, 0, 1), 1);
        row(x, 0, 5, 2, 3, 4, 5);
    }

    static void promise34NothingIfOneIsMissing() {
        Edges.refuses(NOTHING, SheetsEdgesTest::rows, x -> x.copy(3, 0, 0, 0, 1), "from");
        Edges.refuses(NOTHING, SheetsEdgesTest::rows, x -> x.copy(0, 0, 3, 0, 1), "to");
        Edges.refuses(NOTHING, SheetsEdgesTest::rows, x -> x.copy(3, 0, 3, 0, 0), "both, and no places");
    }

    static void promise34KindIfTheyAreNotOfOneSort() {
        Edges.refuses(KIND, SheetsEdgesTest::rows, x -> x.copy(0, 0, 2, 0, 1), "shorts to floats");
        Edges.refuses(KIND, SheetsEdgesTest::rows, x -> x.copy(2, 0, 0, 0, 1), "floats to shorts");
        Edges.refuses(KIND, SheetsEdgesTest::rows, x -> x.copy(2, 0, 0, 0, 0), "no places");
    }

    static void promise34IndexOfTheFirst() {
        due("the first two", rows().copy(0, 0, 1, 0, 2), 2);
        due("the last two", rows().copy(0, 3, 1, 0, 2), 2);
        Edges.refuses(INDEX, SheetsEdgesTest::rows, (x, v) -> x.copy(0, v, 1, 0, 2), -1, 4, 5, LEAST, MOST);
    }

    static void promise34IndexOfTheOther() {
        due("the first two", rows().copy(0, 0, 1, 0, 2), 2);
        due("the last two", rows().copy(0, 0, 1, 1, 2), 2);
        Edges.refuses(INDEX, SheetsEdgesTest::rows, (x, v) -> x.copy(0, 0, 1, v, 2), -1, 2, 3, LEAST, MOST);
    }

    static void promise34HowMany() {
        due("all of the lesser", rows().copy(0, 0, 1, 0, 3), 3);
        due("all of the lesser", rows().copy(1, 0, 0, 2, 3), 3);
        due("all", rows().copy(0, 0, 0, 0, 5), 5);
        Edges.refuses(INDEX, SheetsEdgesTest::rows, (x, v) -> x.copy(0, 0, 1, 0, v), 4, 5, 6, MOST, -1, LEAST);
        Edges.refuses(INDEX, SheetsEdgesTest::rows, (x, v) -> x.copy(0, 1, 1, 1, v), MOST, -1, LEAST);
        Edges.refuses(INDEX, SheetsEdgesTest::rows, (x, v) -> x.copy(1, 0, 0, 0, v), 4, 5);
    }

    static void promise34NoPlaces() {
        Edges.refuses(0, SheetsEdgesTest::rows, (x, v) -> x.copy(0, v, 1, 0, 0), 0, 4, 5);
        Edges.refuses(0, SheetsEdgesTest::rows, (x, v) -> x.copy(0, 0, 1, v, 0), 0, 2, 3);
        Edges.refuses(INDEX, SheetsEdgesTest::rows, (x, v) -> x.copy(0, v, 1, 0, 0), -1, 6, LEAST, MOST);
        Edges.refuses(INDEX, SheetsEdgesTest::rows, (x, v) -> x.copy(0, 0, 1, v, 0), -1, 4, LEAST, MOST);
    }

    static void promise34WhatStandsFirst() {
        due("bad, not nothing", rows().copy(4, 0, 3, 0, 1), BAD);
        due("bad, not nothing", rows().copy(3, 0, 4, 0, 1), BAD);
        due("nothing, not index", rows().copy(3, -1, 0, -1, -1), NOTHING);
        due("nothing, not index", rows().copy(2, -1, 3, -1, -1), NOTHING);
        due("kind, not index", rows().copy(0, -1, 2, 9, -1), KIND);
    }

    static void promise34AsTheyWere() {
        SpoonPassage x = rows();
        due("up by one", x.copy(0, 0, 0, 1, 4), 4);
        row(x, 0, 1, 1, 2, 3, 4);
        SpoonPassage y = rows();
        due("down by one", y.copy(0, 1, 0, 0, 4), 4);
        row(y, 0, 2, 3, 4, 5, 5);
        SpoonPassage z = rows();
        due("up by three", z.copy(0, 0, 0, 3, 2), 2);
        row(z, 0, 1, 2, 3, 1, 2);
        Edges.refuses(5, SheetsEdgesTest::rows, w -> w.copy(0, 0, 0, 0, 5), "onto themselves");
    }

    static void promise34NoNumberComesAlong() {
        SpoonPassage x = rows();
        x.sheet(1, FLOATS, 3);
        due("three", x.copy(2, 1, 1, 0, 3), 3);
        row(x, 1, NONE, 11, -99999);
        due("the first stays", x.copy(1, 0, 2, 0, 1), 1);
        row(x, 2, NONE, NONE, 11, -99999);
    }

    static void promise34TheFirstStays() {
        SpoonPassage x = rows();
        x.copy(0, 1, 1, 0, 2);
        row(x, 0, 1, 2, 3, 4, 5);
        row(x, 1, 2, 3, 8);
        x.mark(0, 1, 77);
        row(x, 1, 2, 3, 8);
    }

    static void promise34All24() {
        SpoonPassage x = Scenes.full();
        due("24", x.copy(0, 0, 2, 0, 24), 24);
        due("25", x.copy(0, 0, 2, 0, 25), INDEX);
        due("none behind the last", x.copy(0, 24, 2, 24, 0), 0);
        due("one behind the last", x.copy(0, 24, 2, 23, 1), INDEX);
    }

    // ---- 35

    static void promise35SlotIs0To4() {
        SpoonPassage x = new SpoonPassage();
        for (int s = 0; s < 5; s++) {
            due("slot " + s, x.lay(s, 3, 10 + s), 0);
        }
        for (int s = 0; s < 5; s++) {
            due("by itself", x.rest(s, 100), 10 + s);
        }
        Edges.refuses(BAD, Scenes::rich, (y, v) -> y.lay(v, 3, 5), -1, 5, LEAST, MOST);
    }

    static void promise35ThingIs0To3() {
        SpoonPassage x = Scenes.silent();
        due("1, a digger", x.lay(3, 1, 0), 0);
        due("2, a sheet", x.lay(3, 2, 0), 1);
        due("3, a number", x.lay(3, 3, 0), 2);
        due("0, nothing", x.lay(3, 0, 0), 3);
        due("nothing", x.lay(3, 0, 0), 0);
        Edges.refuses(BAD, Scenes::rich, (y, v) -> y.lay(0, v, 0), -1, 4, LEAST, MOST);
    }

    static void promise35DiggerIsOneThatIsThere() {
        SpoonPassage x = Scenes.silent();
        due("the first", x.lay(3, 1, 0), 0);
        due("the last", x.lay(3, 1, 5), 1);
        Edges.refuses(BAD, Scenes::rich, (y, v) -> y.lay(0, 1, v), -1, 6, LEAST, MOST);
        Edges.refuses(BAD, Scenes::full, (y, v) -> y.lay(0, 1, v), -1, 10);
        Edges.refuses(BAD, Scenes::bare, (y, v) -> y.lay(0, 1, v), -1, 0);
    }

    static void promise35SheetIs0To3() {
        due("0", Scenes.full().lay(0, 2, 0), 1);
        due("3", Scenes.full().lay(0, 2, 3), 1);
        Edges.refuses(BAD, Scenes::rich, (y, v) -> y.lay(0, 2, v), -1, 4, LEAST, MOST);
    }

    static void promise35NothingIfThatSheetIsMissing() {
        Edges.refuses(NOTHING, Scenes::rich, (x, v) -> x.lay(v, 2, 3), 0, 1, 2, 3, 4);
        due("bad stands first", Scenes.rich().lay(5, 2, 3), BAD);
    }

    static void promise35ANumberMayBeAny() {
        SpoonPassage x = new SpoonPassage();
        for (int k : new int[] {LEAST, MOST, NONE, BAD, 0, -1}) {
            x.lay(0, 3, k);
            due("rest", x.rest(0, 1000), k % 1000);
        }
    }

    static void promise35NothingWithAnyK() {
        for (int k : new int[] {LEAST, MOST, -1, 99}) {
            SpoonPassage x = Scenes.rich();
            due("held", x.lay(2, 0, k), 3);
            due("holds", x.rest(2, 1), NOTHING);
        }
    }

    static void promise35ASheetWithoutPlaces() {
        SpoonPassage x = Scenes.rich();
        due("held", x.lay(0, 2, 2), 1);
        due("no place", x.item(0, 0), INDEX);
    }

    // ---- 36

    static void promise36SlotIs0To4() {
        SpoonPassage x = Scenes.silent();
        x.lay(4, 1, 0);
        due("0", x.ask(0, 0), 2 * (23 + 43));
        due("4", x.ask(4, 0), 20);
        Edges.refuses(BAD, Scenes::rich, (y, v) -> y.ask(v, 0), -1, 5, LEAST, MOST);
    }

    static void promise36KindIs0To5() {
        SpoonPassage x = Scenes.silent();
        x.lay(3, 1, 5);
        due("0", x.ask(3, 0), 0);
        due("5", x.ask(3, 5), 0);
        Edges.refuses(BAD, Scenes::rich, (y, v) -> y.ask(0, v), -1, 6, LEAST, MOST);
    }

    static void promise36NothingIfItHoldsNothing() {
        Edges.refuses(NOTHING, Scenes::rich, (x, v) -> x.ask(3, v), 0, 5);
        due("bad stands first", Scenes.rich().ask(3, 6), BAD);
        due("bad stands first", Scenes.rich().ask(3, -1), BAD);
    }

    static void promise36KindIfItIsNoDigger() {
        Edges.refuses(KIND, Scenes::rich, (x, v) -> x.ask(v, 0), 1, 2, 4);
        due("bad stands first", Scenes.rich().ask(1, 6), BAD);
    }

    static void promise36OfThatKindOrOneUnderIt() {
        String[] is = {"0", "01", "02", "013", "024", "05"};
        for (int kind = 0; kind < 6; kind++) {
            SpoonPassage x = Scenes.one(kind, 30, 20);
            x.lay(0, 1, 0);
            int worth = x.told(0, 7);
            for (int asked = 0; asked < 6; asked++) {
                due(kind + " for " + asked, x.ask(0, asked), is[kind].indexOf('0' + asked) >= 0 ? worth : KIND);
            }
        }
        Edges.refuses(KIND, Scenes::rich, (y, v) -> y.ask(0, v), 2, 4, 5);
    }

    static void promise36AsItWasThenForGood() {
        SpoonPassage x = Scenes.one(1, 30, 20);
        x.lay(0, 1, 0);
        x.set(0, 1, 99);
        x.set(0, 2, 99);
        x.turns(0, 5);
        x.nights(5);
        due("a son's worth", x.ask(0, 1), 50);
        due("no nun", x.ask(0, 5), KIND);
        SpoonPassage y = new SpoonPassage();
        y.keep();
        y.digger(1, 30, 20, 0);
        y.lay(0, 1, 0);
        y.back();
        due("nobody is there", y.count(0), 0);
        due("but in the slot", y.ask(0, 0), 50);
        y.digger(0, 1, 1, 0);
        due("whoever comes", y.ask(0, 0), 50);
    }

    static void promise36ANunsEarthThen() {
        SpoonPassage x = Scenes.withEarth(9999);
        x.turns(0, 5);
        x.lay(0, 1, 0);
        due("a tenth", x.ask(0, 5), 999);
    }

    static void promise36NothingChanges() {
        Edges.changesNothing(Scenes::rich, x -> x.ask(0, 1));
    }

    // ---- 37

    static void promise37SlotIs0To4() {
        SpoonPassage x = Scenes.rich();
        x.lay(0, 2, 0);
        due("0", x.item(0, 2), -9);
        due("4", x.item(4, 3), 2);
        Edges.refuses(BAD, Scenes::rich, (y, v) -> y.item(v, 0), -1, 5, LEAST, MOST);
    }

    static void promise37NothingIfItHoldsNothing() {
        Edges.refuses(NOTHING, Scenes::rich, (x, v) -> x.item(3, v), 0, -1);
    }

    static void promise37KindIfItIsNoSheet() {
        Edges.refuses(KIND, Scenes::rich, (x, v) -> x.item(v, 0), 0, 2);
        due("ahead of index", Scenes.rich().item(0, -1), KIND);
        due("ahead of index", Scenes.rich().item(2, 99), KIND);
    }

    static void promise37PlaceIsOneThatIsThere() {
        due("the first", Scenes.rich().item(1, 0), 7);
        due("the last", Scenes.rich().item(1, 2), -9);
        due("the last of 24", Scenes.full().item(1, 23), 9);
        Edges.refuses(INDEX, Scenes::rich, (x, v) -> x.item(1, v), -1, 3, LEAST, MOST);
        Edges.refuses(INDEX, Scenes::full, (x, v) -> x.item(1, v), -1, 24);
    }

    static void promise37KindIfItIsNoNumber() {
        Edges.refuses(KIND, Scenes::rich, x -> x.item(4, 0), "no number");
        due("a number", Scenes.rich().item(4, 1), -99999);
    }

    static void promise37ARowOfItsOwnAsItWasThen() {
        SpoonPassage x = Scenes.rich();
        x.mark(0, 0, 100);
        due("marked since", x.item(1, 0), 7);
        x.sheet(0, FLOATS, 1);
        due("made anew since", x.item(1, 2), -9);
        due("no more places than then", x.item(1, 3), INDEX);
        x.sheet(0, -1, 0);
        due("missing since", x.item(1, 0), 7);
        x.lay(1, 2, 2);
        due("another sheet", x.item(1, 0), INDEX);
    }

    static void promise37TwoSlotsOfOneSheet() {
        SpoonPassage x = Scenes.rich();
        x.mark(0, 0, 100);
        x.lay(2, 2, 0);
        due("the first", x.item(1, 0), 7);
        due("the second", x.item(2, 0), 100);
    }

    static void promise37NothingChanges() {
        Edges.changesNothing(Scenes::rich, x -> x.item(1, 0));
    }

    // ---- 38

    static void promise38SlotIs0To4() {
        SpoonPassage x = new SpoonPassage();
        x.lay(0, 3, 17);
        x.lay(4, 3, 18);
        due("0", x.rest(0, 10), 7);
        due("4", x.rest(4, 10), 8);
        Edges.refuses(BAD, Scenes::rich, (y, v) -> y.rest(v, 1), -1, 5, LEAST, MOST);
    }

    static void promise38NothingIfItHoldsNothing() {
        Edges.refuses(NOTHING, Scenes::rich, (x, v) -> x.rest(3, v), 1, 0);
    }

    static void promise38KindIfItIsNoNumber() {
        Edges.refuses(KIND, Scenes::rich, (x, v) -> x.rest(v, 1), 0, 1, 4);
        due("ahead of no", Scenes.rich().rest(0, 0), KIND);
    }

    static void promise38NoIfNIs0() {
        Edges.refuses(NO, Scenes::rich, (x, v) -> x.rest(2, v), 0);
        due("by 1", Scenes.rich().rest(2, 1), 0);
        due("by -1", Scenes.rich().rest(2, -1), 0);
    }

    static void promise38SignsOfTheRest() {
        int[][] rows = {{7, 3, 1}, {-7, 3, -1}, {7, -3, 1}, {-7, -3, -1}, {3, 7, 3}, {-3, 7, -3}, {0, 5, 0}, {7, 7, 0}, {-7, 7, 0},
            {LEAST, -1, 0}, {LEAST, 1, 0}, {LEAST, LEAST, 0}, {MOST, LEAST, MOST}, {LEAST, MOST, -1}, {MOST, MOST, 0}};
        for (int[] r : rows) {
            SpoonPassage x = new SpoonPassage();
            x.lay(0, 3, r[0]);
            due(r[0] + " by " + r[1], x.rest(0, r[1]), r[2]);
        }
    }

    static void promise38NothingChanges() {
        Edges.changesNothing(Scenes::rich, x -> x.rest(2, 5));
    }
}
