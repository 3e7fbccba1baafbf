/** A use of SpoonPassage, as README.md shows it. */
public final class Use {
    public static void main(String[] args) {
        SpoonPassage x = new SpoonPassage();

        say("a BOY, force 50, 30 candles, in branch 0", x.digger(3, 50, 30, 0));
        say("an UNCLE, force 40, 20 candles, in branch 0", x.digger(2, 40, 20, 0));
        say("what digger 0 digs in a night", x.told(0, 5));
        say("five nights: the hill is more by", x.nights(5));
        say("what digger 0 got rid of", x.told(0, 4));
        say("the hill ten nights on, only thought", x.behind(10, 2));
        say("the hill now", x.below(2));

        // "dig f-r+n   ", four bytes a number, the highest first
        say("bytes on the tape", x.feed(0x64696720, 0x662d722b, 0x6e202020));
        say("the tape is text", x.text());
        say("what digger 0 digs by it", x.told(0, 5));

        // "dig f-      " ends too soon: its fault is at place 12
        x.feed(0x64696720, 0x662d2020, 0x20202020);
        say("a text with a fault", x.text());

        say("an image, with so many diggers", x.keep());
        x.nights(1);
        x.tell(x.below(0));
        x.tell(x.branchOf(0, 0) + x.branchOf(1, 0) + x.branchOf(2, 0) + x.branchOf(3, 0));
        say("the rows of one night are told rightly", x.check(1));
        say("all is as the image again", x.back());

        // refused, and so nothing changes
        say("there is no kind 6", x.digger(6, 0, 0, 0) == SpoonPassage.BAD);
        say("the UNCLE is no SON", x.as(1, 1) == SpoonPassage.KIND);
        say("sheet 0 is missing", x.mark(0, 0, 7) == SpoonPassage.NOTHING);

        // not refused: there is none
        say("no diggers raise such a hill", x.light(10, 9999) == SpoonPassage.NONE);
    }

    private static void say(String what, int answer) {
        System.out.println(what + ": " + answer);
    }

    private static void say(String what, boolean is) {
        System.out.println(what + ": " + is);
    }
}
