import java.util.ArrayList;
import java.util.List;

/** Objects to try calls on, the same each time, and all that can be asked of one; both together keep within 512 calls. */
final class Scenes {
    private Scenes() {
    }

    /** As new. */
    static SpoonPassage bare() {
        return new SpoonPassage();
    }

    /** One digger in branch 0, where the warder stays behind; rock is 0, so that it digs its force. */
    static SpoonPassage one(int kind, int force, int candles) {
        SpoonPassage x = still();
        x.digger(kind, force, candles, 0);
        return x;
    }

    /** Nobody; no warder gains, in branch 0 there is no rock, and each branch is one yard ahead. */
    static SpoonPassage still() {
        SpoonPassage x = new SpoonPassage();
        x.rule(0, 0);
        x.branch(0, 1, 0);
        for (int b = 0; b < 4; b++) {
            x.branch(b, 0, 1);
        }
        return x;
    }

    /**
     * Six diggers, one of each kind; a text for each key; sheets of shorts, of floats, without a place, and one that
     * is missing (3); slots with a digger, a sheet, a number, nothing (3), a sheet of floats.
     */
    static SpoonPassage silent() {
        SpoonPassage x = new SpoonPassage();
        x.seed(7);
        x.rule(0, 4);
        x.rule(1, 35);
        for (int kind = 0; kind < 6; kind++) {
            x.digger(kind, 40 + kind, 20 + kind, kind % 4);
        }
        for (int b = 0; b < 4; b++) {
            x.branch(b, 0, 100 + b);
            x.branch(b, 1, 5 + b);
            x.branch(b, 2, 50 + b);
        }
        Due.text(x, "dig f-r+1");
        Due.text(x, "fee m+h*3");
        Due.text(x, "fine f*c");
        x.sheet(0, 0, 3);
        x.mark(0, 0, 7);
        x.mark(0, 2, -9);
        x.sheet(1, 1, 4);
        x.mark(1, 0, Due.NONE);
        x.mark(1, 1, -99999);
        x.mark(1, 3, 2);
        x.sheet(2, 0, 0);
        x.lay(0, 1, 3);
        x.lay(1, 2, 0);
        x.lay(2, 3, -77);
        x.lay(4, 2, 1);
        return x;
    }

    /** As silent; an image, which is gone on from; bytes on the tape; numbers wait that are the image's rows. */
    static SpoonPassage rich() {
        SpoonPassage x = untold();
        x.back();
        List<Integer> rows = rows(x, 2);
        x.back();
        goOn(x);
        for (int v : rows) {
            x.tell(v);
        }
        return x;
    }

    /** As rich, but no numbers wait. */
    static SpoonPassage untold() {
        SpoonPassage x = silent();
        x.nights(2);
        x.keep();
        x.feed(Due.four("fee ", 0), Due.four("h+12", 0), Due.four("    ", 0));
        goOn(x);
        return x;
    }

    private static void goOn(SpoonPassage x) {
        x.nights(1);
        x.turns(1, 2);
        x.rule(0, 5);
    }

    /** Ten diggers, fourteen texts (the image has twelve), 24 places a sheet, 96 bytes on the tape, 60 numbers. */
    static SpoonPassage full() {
        SpoonPassage x = fullUpToImage();
        x.nights(1);
        short12(x, "fee 3");
        short12(x, "dig 4");
        String tape = "fee " + "7+".repeat(45) + "7 ";
        for (int i = 0; i < 96; i += 12) {
            x.feed(Due.four(tape, i), Due.four(tape, i + 4), Due.four(tape, i + 8));
        }
        for (int v : rows(fullUpToImage(), 30)) {
            x.tell(v);
        }
        for (int s = 0; s < 4; s++) {
            x.sheet(s, s % 2, 24);
            x.mark(s, 23, 9);
            x.lay(s, 1 + s % 2, s);
        }
        x.lay(4, 3, 123456);
        return x;
    }

    private static SpoonPassage fullUpToImage() {
        SpoonPassage x = new SpoonPassage();
        x.seed(9);
        x.rule(1, 20);
        x.deal(10);
        for (int i = 0; i < 12; i++) {
            short12(x, new String[] {"dig f-r+", "fee m+", "fine f+"}[i % 3] + i);
        }
        x.keep();
        return x;
    }

    /** Tells a text of up to twelve bytes, by two calls. */
    static int short12(SpoonPassage x, String text) {
        x.feed(Due.four(text, 0), Due.four(text, 4), Due.four(text, 8));
        return x.text();
    }

    /** The rows of n nights, which pass. */
    static List<Integer> rows(SpoonPassage x, int n) {
        List<Integer> rows = new ArrayList<>();
        for (int i = 0; i < n; i++) {
            x.nights(1);
            rows.add(x.below(0));
            rows.add(x.branchOf(0, 0) + x.branchOf(1, 0) + x.branchOf(2, 0) + x.branchOf(3, 0));
        }
        return rows;
    }

    /** Nights up to this one pass over an object of no nights yet. */
    static SpoonPassage atNight(SpoonPassage x, int night) {
        for (int left = night; left > 0; left -= 100) {
            x.nights(Math.min(left, 100));
        }
        return x;
    }

    /** Digger 0 of one(0, 99, ..) comes to have so much earth, and 99 candles; branch 0 is dug up to 999. */
    static SpoonPassage withEarth(int earth) {
        SpoonPassage x = one(0, 99, 99);
        for (int left = earth; left > 0; left -= 999) {
            x.branch(0, 0, 999 - Math.min(left, 999));
            x.nights(11);
            x.set(0, 2, 99);
        }
        return x;
    }

    /** All that can be asked: what is now, slots, sheets, what waits, the image, the tape. It is used up by this. */
    static List<Integer> all(SpoonPassage x) {
        List<Integer> row = new ArrayList<>();
        now(x, row);
        for (int slot = 0; slot < 5; slot++) {
            held(x, slot, row);
        }
        for (int sheet = 0; sheet < 4; sheet++) {
            row.add(x.reads(sheet));
            row.add(x.lay(4, 2, sheet));
            held(x, 4, row);
        }
        row.add(x.check(Math.max(1, x.count(7) / 2)));
        row.add(x.back());
        now(x, row);
        row.add(x.text());
        row.add(x.textTold(x.count(6) - 1, 1));
        row.add(x.fee());
        return row;
    }

    private static void now(SpoonPassage x, List<Integer> row) {
        for (int what = 0; what < 10; what++) {
            row.add(x.count(what));
        }
        for (int b = 0; b < 4; b++) {
            for (int what = 0; what < 3; what++) {
                row.add(x.branchOf(b, what));
            }
        }
        int diggers = x.count(0);
        for (int d = 0; d < diggers; d++) {
            for (int what = 0; what < 5; what++) {
                row.add(x.told(d, what));
            }
        }
        int texts = x.count(6);
        for (int t = 0; t < texts; t++) {
            row.add(x.textTold(t, 0));
            row.add(x.textTold(t, 1));
        }
        for (int key = 0; key < 3; key++) {
            row.add(x.why(key));
        }
        row.add(x.told(0, 5));
        row.add(x.fee());
        row.add(x.fine(0));
    }

    private static void held(SpoonPassage x, int slot, List<Integer> row) {
        for (int kind = 0; kind < 6; kind += 3) {
            row.add(x.ask(slot, kind));
        }
        row.add(x.rest(slot, 1000003));
        for (int place : new int[] {0, 1, 2, 3, 23, 24}) {
            row.add(x.item(slot, place));
        }
    }
}
