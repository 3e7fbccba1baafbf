/** The edges of promises 25 to 29: the tape, texts, their faults, which one counts. */
public final class TextsEdgesTest {
    private static final int BAD = Due.BAD, FULL = Due.FULL, NONE = Due.NONE;
    private static final int LEAST = Edges.LEAST, MOST = Edges.MOST;
    private static final String[] KEYS = {"dig", "fee", "fine"}, NAMES = {"fran", "mh", "fc"};

    private static void due(String what, int got, int want) {
        Edges.due(what, got, want);
    }

    public static void main(String[] args) {
        Edges.run(TextsEdgesTest.class);
    }

    /** It is a text, the first of its object. */
    private static void isText(String text) {
        due("'" + text + "'", Due.text(new SpoonPassage(), text), 0);
    }

    private static void fault(String text, int place) {
        due("'" + text + "'", Due.text(new SpoonPassage(), text), -100 - place);
    }

    private static void gives(String sum, int want) {
        SpoonPassage x = new SpoonPassage();
        due("'" + sum + "' is one", Due.text(x, "fee " + sum), 0);
        due("'" + sum + "' gives", x.fee(), want);
    }

    // ---- 25

    private static SpoonPassage tape(int bytes) {
        SpoonPassage x = Scenes.untold();
        x.trim(0);
        for (int i = 0; i < bytes; i += 12) {
            x.feed(Due.four("fee ", 0), Due.four("7+7+", 0), Due.four("7+7 ", 0));
        }
        x.trim(bytes);
        return x;
    }

    static void promise25HowManyItHas() {
        SpoonPassage x = new SpoonPassage();
        for (int i = 1; i <= 8; i++) {
            due("twelve more", x.feed(LEAST, 0, MOST), 12 * i);
            due("has", x.count(8), 12 * i);
        }
    }

    static void promise25NoMoreThan96() {
        due("83 and 12", tape(83).feed(0, 0, 0), 95);
        due("84 and 12", tape(84).feed(0, 0, 0), 96);
        due("85 and 12", tape(85).feed(0, 0, 0), FULL);
        due("96 and 12", tape(96).feed(0, 0, 0), FULL);
    }

    static void promise25FullChangesNothing() {
        Edges.refuses(FULL, () -> tape(85), x -> x.feed(1, 2, 3), "85 and 12");
        Edges.refuses(FULL, () -> tape(95), x -> x.feed(1, 2, 3), "95 and 12");
        Edges.refuses(FULL, Scenes::full, x -> x.feed(1, 2, 3), "96 and 12");
    }

    static void promise25TheHighestByteFirst() {
        SpoonPassage x = new SpoonPassage();
        x.feed('f' << 24 | 'e' << 16 | 'e' << 8 | ' ', '1' << 24 | '2' << 16 | '3' << 8 | '4', '+' << 24 | '5' << 16 | '6' << 8 | '7');
        due("a text", x.text(), 0);
        due("fee 1234+567", x.fee(), 1234 + 567);
    }

    static void promise25BytesAbove127() {
        for (int place = 0; place < 12; place++) {
            SpoonPassage x = new SpoonPassage();
            int[] v = {Due.four("fee ", 0), Due.four("7+7+", 0), Due.four("7+7 ", 0)};
            v[place / 4] |= 255 << 24 - 8 * (place % 4);
            x.feed(v[0], v[1], v[2]);
            // a word is cut short by it
            due("at " + place, x.text(), -100 - (place < 3 ? 0 : place));
        }
    }

    // ---- 26

    static void promise26NIs0ToWhatItHas() {
        due("0", tape(24).trim(0), 0);
        due("23", tape(24).trim(23), 23);
        due("24, all", tape(24).trim(24), 24);
        due("96, all", tape(96).trim(96), 96);
        Edges.refuses(BAD, () -> tape(24), (x, v) -> x.trim(v), -1, 25, 96, LEAST, MOST);
        Edges.refuses(BAD, Scenes::full, (x, v) -> x.trim(v), -1, 97);
    }

    static void promise26OfNoBytes() {
        due("0", new SpoonPassage().trim(0), 0);
        Edges.refuses(BAD, Scenes::bare, (x, v) -> x.trim(v), -1, 1);
    }

    static void promise26TheFirstAreKept() {
        SpoonPassage x = tape(12);
        due("fee 7+7", x.trim(7), 7);
        due("has", x.count(8), 7);
        due("a text", x.text(), 3);
        due("gives", x.fee(), 14);
    }

    static void promise26AllOfThemChangesNothing() {
        Edges.changesNothing(() -> tape(24), x -> x.trim(24));
        Edges.changesNothing(Scenes::full, x -> x.trim(96));
    }

    static void promise26WhatIsTrimmedIsGone() {
        SpoonPassage x = tape(12);
        x.trim(5);
        x.feed(Due.four("*2  ", 0), Due.four("    ", 0), Due.four("    ", 0));
        due("has", x.count(8), 17);
        due("fee 7*2", x.text(), 3);
        due("gives", x.fee(), 14);
    }

    // ---- 27: numbers, the tape

    static void promise27FourteenAtMostNumberedFrom0() {
        SpoonPassage x = new SpoonPassage();
        for (int i = 0; i < 14; i++) {
            due("number", Due.text(x, KEYS[i % 3] + " " + i), i);
        }
        due("a fifteenth", Due.text(x, "fee 99"), FULL);
        due("fourteen", x.count(6), 14);
        due("the tape is used up", x.count(8), 0);
        due("that counts which did", x.why(1), 13);
        due("and gives", x.fee(), 13);
    }

    static void promise27FullChangesNothingButTheTape() {
        SpoonPassage x = Scenes.full();
        due("a fifteenth", x.text(), FULL);
        SpoonPassage y = Scenes.full();
        y.trim(0);
        Edges.same("all but the tape is as it was", x, y);
    }

    static void promise27FaultStandsAheadOfFull() {
        SpoonPassage x = Scenes.full();
        due("a fault", Due.text(x, "fee m+"), -106);
        due("no fault", Due.text(x, "fee m"), FULL);
    }

    static void promise27FaultChangesNothingButTheTape() {
        for (String text : new String[] {"", "fee", "fee m+", "fee (m", "dig m", "fine 12345", "fee (((((((((m", "fee !!!!!!!!!m"}) {
            SpoonPassage x = Scenes.rich();
            due("'" + text + "' is none", Due.text(x, text) <= -100 ? 1 : 0, 1);
            SpoonPassage y = Scenes.rich();
            y.trim(0);
            Edges.same("all but the tape is as it was", x, y);
        }
    }

    static void promise27TheTapeIsUsedUpWhateverIsAnswered() {
        SpoonPassage x = new SpoonPassage();
        Due.text(x, "fee m");
        due("by a text", x.count(8), 0);
        Due.text(x, "fee m+");
        due("by a fault", x.count(8), 0);
        due("nothing is left", x.text(), -100);
        due("what comes then is by itself", Scenes.short12(x, "dig f"), 1);
    }

    static void promise27All96Bytes() {
        SpoonPassage x = new SpoonPassage();
        String most = "fee  " + "9+".repeat(45) + "9";
        due("96 bytes", most.length(), 96);
        due("a text", Due.text(x, most), 0);
        due("gives", x.fee(), 46 * 9);
        due("numbers", x.textTold(0, 1), 46);
        fault("fee " + "9+".repeat(46), 96);
        fault("fee  " + "9+".repeat(45) + "z", 95);
        fault("fee 1" + " ".repeat(90) + "1", 95);
        isText("fee 1" + " ".repeat(91));
        isText(" ".repeat(91) + "fee 1");
        fault(" ".repeat(96), 96);
        isText("fee" + "(".repeat(8) + "1" + " ".repeat(76) + ")".repeat(8));
    }

    static void promise27WhatIsBeyondTheTapeDoesNotCount() {
        SpoonPassage x = new SpoonPassage();
        Due.tape(x, "fee 12345");
        x.trim(8);
        due("four digits are kept", x.text(), 0);
        due("gives", x.fee(), 1234);
        Due.tape(x, "fee m m");
        x.trim(6);
        due("one name is kept", x.text(), 1);
        Due.tape(x, "fine c");
        x.trim(3);
        due("half a key is kept", x.text(), -100);
        Due.tape(x, "fee m+1");
        x.trim(6);
        due("the end comes too soon", x.text(), -106);
    }

    static void promise27NoBracketBeyondTheTapeCloses() {
        String[] rows = {"fee (m)", "fee ((m))", "fee !(m)", "fee (m)+(m)"};
        for (String text : rows) {
            SpoonPassage x = new SpoonPassage();
            Due.tape(x, text);
            x.trim(text.length() - 1);
            due("'" + text + "' but for its last", x.text(), -100 - (text.length() - 1));
            Due.text(x, text);
            due("used up", x.text(), -100);
        }
    }

    static void promise27EachByteBeyondTheTape() {
        for (String kept : new String[] {"", "fee", "fee ", "fee m", "fee 1", "fee (m", "fee !", "fee m+"}) {
            int want = Due.text(new SpoonPassage(), kept);
            for (int b = 0; b < 256; b++) {
                SpoonPassage x = new SpoonPassage();
                Due.tape(x, kept + (char) b);
                x.trim(kept.length());
                due("'" + kept + "' ahead of " + b, x.text(), want);
            }
        }
    }

    static void promise27AShorterTextInTheRoomOfALongerOne() {
        String[] longer = {"fee !0", "fee !!!!!!!!0", "fee 1+2", "fee 9*9-9/9", "fee 1|0&1", "fee m+h*2<9"};
        for (String text : longer) {
            SpoonPassage x = new SpoonPassage();
            x.keep();
            due("the longer", Due.text(x, text), 0);
            x.back();
            due("the shorter", Due.text(x, "fee 5"), 0);
            due("gives", x.fee(), 5);
            due("has", x.textTold(0, 1), 1);
            x.back();
            due("one between", Due.text(x, "fee 5-3"), 0);
            due("gives", x.fee(), 2);
        }
    }

    // ---- 27: words, signs, blanks

    static void promise27TheFirstByte() {
        for (int b = 0; b < 256; b++) {
            fault("" + (char) b, b == 32 ? 1 : 0);
        }
    }

    static void promise27EachByteBehindAKey() {
        for (int b = 0; b < 256; b++) {
            boolean letter = b >= 'a' && b <= 'z', goesOn = b == ' ' || b == '(' || b == '!';
            // by a letter the key would be another word
            fault("dig" + (char) b, letter ? 0 : goesOn ? 4 : 3);
        }
    }

    static void promise27EachByteWhereAPieceIsDue() {
        for (int key = 0; key < 3; key++) {
            String ahead = KEYS[key] + " ";
            for (int b = 0; b < 256; b++) {
                char c = (char) b;
                if (c >= '0' && c <= '9' || NAMES[key].indexOf(c) >= 0) {
                    isText(ahead + c);
                } else {
                    fault(ahead + c, ahead.length() + (c == ' ' || c == '(' || c == '!' ? 1 : 0));
                }
            }
        }
    }

    static void promise27EachByteBehindAPiece() {
        for (String ahead : new String[] {"dig f", "dig 12", "dig (f)", "dig !f", "dig f "}) {
            for (int b = 0; b < 256; b++) {
                char c = (char) b;
                if (c == ' ' || ahead.endsWith("2") && c >= '0' && c <= '9') {
                    isText(ahead + c);
                } else if (ahead.endsWith("f") && c >= 'a' && c <= 'z') {
                    // it makes the name a longer word
                    fault(ahead + c, ahead.length() - 1);
                } else {
                    fault(ahead + c, ahead.length() + ("|&<=>+-*/".indexOf(c) >= 0 ? 1 : 0));
                }
            }
        }
    }

    static void promise27EachByteBehindAPieceInBrackets() {
        for (int b = 0; b < 256; b++) {
            char c = (char) b;
            if (c == ')') {
                isText("fee (1+m )");
            } else {
                fault("fee (1+m " + c, 9 + ("|&<=>+-*/ ".indexOf(c) >= 0 ? 1 : 0));
            }
        }
    }

    static void promise27EachByteBehindATest() {
        for (int b = 0; b < 256; b++) {
            char c = (char) b;
            if (c == ' ') {
                isText("fee 1<(m) ");
            } else {
                fault("fee 1<(m)" + c, 9 + ("|&+-*/".indexOf(c) >= 0 ? 1 : 0));
            }
        }
    }

    static void promise27AKeyIsOneOfThree() {
        for (String key : KEYS) {
            isText(key + " 1");
            isText("  " + key + "  1");
        }
        for (String key : new String[] {"di", "digs", "fe", "feed", "fin", "fines", "d", "f", "xdig", "gid", "ffee", "figfee", "big", "dog", "die", "bee",
            "foe", "fed", "dine", "fane", "file", "find"}) {
            fault(key + " 1", 0);
            fault(" " + key + " 1", 1);
        }
        fault("dig fee 1", 4);
        fault("dig dig", 4);
    }

    static void promise27BlanksMayStandBetweenAll() {
        isText("  dig  (  f  +  1  )  *  !  2  <  3  &  4  |  5  ");
        isText("dig(f+1)*!2<3&4|5");
        isText("dig!f");
        fault("dig f  r", 7);
        fault("d ig f", 0);
        fault("dig 1 2", 6);
        fault("dig f r", 6);
        fault("fee m< =h", 7);
    }

    static void promise27AWordRightBehindAnotherNeedsABlank() {
        fault("dig1", 3);
        isText("dig 1");
        fault("dig 1f", 5);
        fault("dig f1", 5);
        fault("dig 1f+", 5);
        fault("dig 1+2f", 7);
        fault("dig (1f)", 6);
        fault("fine9", 4);
        fault("fee1m", 3);
    }

    static void promise27ANumberHas1To4Digits() {
        gives("0", 0);
        gives("9", 9);
        gives("9999", 9999);
        gives("0000", 0);
        gives("0009", 9);
        gives("1234", 1234);
        fault("fee 10000", 4);
        fault("fee 00000", 4);
        fault("fee 1+12345", 6);
        fault("fee 123456789012", 4);
        gives("1234 ", 1234);
        fault("fee 1234 5", 9);
    }

    static void promise27ANameHasOneLetter() {
        isText("dig f");
        fault("dig ff", 4);
        fault("dig fr", 4);
        fault("dig f+rr", 6);
        isText("dig f+r+a+n");
        isText("fee m+h");
        isText("fine f+c");
    }

    static void promise27NamesAreThoseOfTheKey() {
        for (int key = 0; key < 3; key++) {
            for (char c = 'a'; c <= 'z'; c++) {
                String text = KEYS[key] + " 1+" + c;
                if (NAMES[key].indexOf(c) >= 0) {
                    isText(text);
                } else {
                    fault(text, text.length() - 1);
                }
            }
        }
    }

    // ---- 27: faults

    static void promise27FaultIsTheFirstWithWhichNoTextGoesOn() {
        fault("fee m + + ) zz", 8);
        fault("fee ) (", 4);
        fault("zz (", 0);
        fault("fee m m m", 6);
        fault("fee 1 & 12345 m", 8);
        fault("fee (m+h)) + 12345", 9);
        fault("fee ( ) m", 6);
        fault("fee m ! h", 6);
        fault("fee m ( h )", 6);
    }

    static void promise27TheEndComesTooSoon() {
        fault("", 0);
        fault(" ", 1);
        fault("fee", 3);
        fault("fee ", 4);
        fault("fee   ", 6);
        fault("fee (", 5);
        fault("fee (m", 6);
        fault("fee (m  ", 8);
        fault("fee ((m)", 8);
        fault("fee !", 5);
        fault("fee ! ", 6);
        for (char sign : "|&<=>+-*/".toCharArray()) {
            fault("fee m" + sign, 6);
            fault("fee m" + sign + "  ", 8);
        }
    }

    static void promise27OneTestAtMost() {
        for (char a : "<=>".toCharArray()) {
            isText("fee 1" + a + "2");
            for (char b : "<=>".toCharArray()) {
                fault("fee 1" + a + "2" + b + "3", 7);
                fault("fee 1" + a + "2+m*3" + b + "3", 11);
                isText("fee 1" + a + "(2" + b + "3)");
                isText("fee (1" + a + "2)" + b + "3");
                isText("fee 1" + a + "2&2" + b + "3");
                isText("fee 1" + a + "2|2" + b + "3");
            }
            fault("fee 1" + a + a + "2", 6);
        }
    }

    static void promise27NoSignStandsAlone() {
        for (char sign : "|&<=>+-*/".toCharArray()) {
            fault("fee " + sign + "1", 4);
            fault("fee (" + sign + "1)", 5);
            fault("fee 1+" + sign + "1", 6);
        }
    }

    // ---- 27: the ninth

    private static String deep(String open, int many, String inner, String close) {
        return "fee " + open.repeat(many) + inner + close.repeat(many);
    }

    static void promise27EightBracketsWithinOthers() {
        isText(deep("(", 8, "m", ")"));
        fault(deep("(", 9, "m", ")"), 4 + 8);
        fault(deep("(", 8, "1+(m)", ")"), 4 + 8 + 2);
        fault(deep("(", 12, "m", ")"), 4 + 8);
        isText(deep("1+(", 8, "m", ")"));
        fault(deep("1+(", 9, "m", ")"), 4 + 3 * 8 + 2);
        fault("fee ((((((((( ", 12);
    }

    static void promise27BracketsThatAreClosedCountNoMore() {
        isText("fee " + "(".repeat(8) + "m)+(m)" + ")".repeat(7));
        isText("fee (m)" + "+(m)".repeat(20));
        isText("fee " + "(".repeat(8) + "m" + ")".repeat(8) + "*" + "(".repeat(8) + "m" + ")".repeat(8));
        fault("fee " + "(".repeat(8) + "m" + ")".repeat(8) + "*" + "(".repeat(9) + "m" + ")".repeat(9), 4 + 17 + 1 + 8);
        isText("fee " + "(".repeat(8) + "m)+(m)+(m)" + ")".repeat(7));
    }

    static void promise27EightNotsWithinOthers() {
        isText(deep("!", 8, "m", ""));
        fault(deep("!", 9, "m", ""), 4 + 8);
        fault(deep("! ", 9, "m", ""), 4 + 16);
        fault(deep("!", 20, "m", ""), 4 + 8);
        isText("fee 1+" + "!".repeat(8) + "m");
        fault("fee 1+" + "!".repeat(9) + "m", 6 + 8);
    }

    static void promise27NotsThatAreOverCountNoMore() {
        isText("fee !m" + "+!m".repeat(20));
        isText("fee " + "!".repeat(8) + "m+" + "!".repeat(8) + "m");
        isText("fee " + "!".repeat(8) + "(m)+" + "!".repeat(8) + "(m)");
        isText("fee " + "!".repeat(7) + "(!m+!m)");
    }

    static void promise27WhatAFaultLeftOpenCountsNoMore() {
        SpoonPassage x = new SpoonPassage();
        due("eight open", Due.text(x, "fee " + "(".repeat(8)), -112);
        due("eight more", Due.text(x, deep("(", 8, "m", ")")), 0);
        due("eight nots", Due.text(x, "fee " + "!".repeat(8)), -112);
        due("eight more", Due.text(x, deep("!", 8, "m", "")), 1);
        due("numbers", Due.text(x, "fee 1+2+3+"), -110);
        due("one name", Due.text(x, "fee m"), 2);
        due("is all that it has", x.textTold(2, 1), 1);
    }

    static void promise27NotsWithinBracketsOfOthers() {
        fault("fee " + "!".repeat(8) + "(!m)", 4 + 9);
        isText("fee " + "!".repeat(7) + "(!m)");
        fault("fee " + "!".repeat(4) + "(" + "!".repeat(5) + "m)", 4 + 5 + 4);
        isText("fee " + "!".repeat(4) + "(" + "!".repeat(4) + "m)");
    }

    static void promise27EachByItself() {
        isText(deep("!(", 8, "m", ")"));
        isText("fee " + "(".repeat(8) + "!".repeat(8) + "m" + ")".repeat(8));
        isText("fee " + "!".repeat(8) + "(".repeat(8) + "m" + ")".repeat(8));
        fault("fee " + "!".repeat(8) + "(".repeat(9) + "m" + ")".repeat(9), 4 + 8 + 8);
        fault("fee " + "(".repeat(8) + "!".repeat(9) + "m" + ")".repeat(8), 4 + 8 + 8);
        fault(deep("!(", 9, "m", ")"), 4 + 16);
        fault(deep("(!", 9, "m", ")"), 4 + 16);
    }

    // ---- 27: what binds closer

    static void promise27TheLoosestFirst() {
        gives("2+3*4", 14);
        gives("2*3+4", 10);
        gives("20-8/4", 18);
        gives("1+1=2", 1);
        gives("2=1+1", 1);
        gives("2*2=2+2", 1);
        gives("1=1&2=2", 1);
        gives("1=2&2=2", 0);
        gives("1|0&0", 1);
        gives("0&0|1", 1);
        gives("1<2|0", 1);
        gives("0|3>2", 1);
        gives("!0*5", 5);
        gives("!0+5", 6);
        gives("!1=0", 1);
        gives("!(1=0)", 1);
        gives("(1|0)&0", 0);
        gives("2*(3+4)", 14);
    }

    static void promise27FromTheLeft() {
        gives("9-5-3", 1);
        gives("9-(5-3)", 7);
        gives("100/10/5", 2);
        gives("100/(10/5)", 50);
        gives("7/2*2", 6);
        gives("2*7/2", 7);
        gives("5-3+2", 4);
        gives("0|0|3", 1);
        gives("2&2&0", 0);
        gives("2&0&2", 0);
    }

    static void promise27BothSidesAreWorkedOut() {
        gives("1|5/0", 1);
        gives("0&5/0", 0);
        gives("5/0|1", 1);
        gives("5/0&1", 0);
    }

    static void promise27AsDeepAsItGoes() {
        String sum = "0|1&0<1+1*(";
        gives(sum.repeat(7) + "1" + ")".repeat(7), 1);
        gives("!(".repeat(8) + "m" + ")".repeat(8), 0);
        gives("!(".repeat(7) + "m" + ")".repeat(7), 1);
        gives("1+(".repeat(8) + "m" + ")".repeat(8), 8);
        gives("9-(".repeat(8) + "1" + ")".repeat(8), 1);
        gives("!".repeat(8) + "m", 0);
        gives("!".repeat(7) + "m", 1);
    }

    // ---- 27: what names stand for

    static void promise27NamesOfDig() {
        SpoonPassage x = new SpoonPassage();
        x.branch(2, 0, 77);
        x.branch(2, 1, 33);
        x.branch(2, 2, 66);
        x.digger(0, 55, 9, 2);
        x.digger(0, 1, 1, 2);
        x.digger(0, 1, 0, 2);
        x.digger(0, 1, 9, 1);
        String[] law = {"dig f", "dig r", "dig a", "dig n"};
        int[] is = {55, 33, 11, 2};
        for (int i = 0; i < 4; i++) {
            Due.text(x, law[i]);
            due(law[i], x.told(0, 5), is[i]);
        }
        due("of one that is dark the others count", x.told(2, 5), 2);
        x.set(0, 2, 0);
        x.set(1, 2, 0);
        due("none is lit", x.told(2, 5), 0);
    }

    // ---- 28

    private static SpoonPassage threeTexts() {
        return Scenes.silent();
    }

    static void promise28TextIsOneThatWasTold() {
        SpoonPassage x = threeTexts();
        due("the first", x.textTold(0, 0), 0);
        due("the last", x.textTold(2, 0), 2);
        Edges.refuses(BAD, TextsEdgesTest::threeTexts, (y, v) -> y.textTold(v, 0), -1, 3, 13, 14, LEAST, MOST);
        Edges.refuses(BAD, Scenes::full, (y, v) -> y.textTold(v, 0), -1, 14);
        Edges.refuses(BAD, Scenes::bare, (y, v) -> y.textTold(v, 0), -1, 0);
    }

    static void promise28TheFourteenth() {
        SpoonPassage x = Scenes.full();
        due("key", x.textTold(13, 0), 0);
        due("numbers", x.textTold(13, 1), 1);
    }

    static void promise28WhatIs0Or1() {
        SpoonPassage x = threeTexts();
        due("0, the key", x.textTold(1, 0), 1);
        due("1, how many", x.textTold(1, 1), 3);
        Edges.refuses(BAD, TextsEdgesTest::threeTexts, (y, v) -> y.textTold(1, v), -1, 2, LEAST, MOST);
        Edges.changesNothing(TextsEdgesTest::threeTexts, y -> y.textTold(1, 0));
        Edges.changesNothing(TextsEdgesTest::threeTexts, y -> y.textTold(1, 1));
    }

    private static int many(String text) {
        SpoonPassage x = new SpoonPassage();
        due("a text", Due.text(x, text), 0);
        return x.textTold(0, 1);
    }

    static void promise28HowManyNumbersAndNames() {
        due("one number", many("fee 1234"), 1);
        due("one name", many("fee m"), 1);
        due("signs are none", many("fee !(!(1))"), 1);
        due("the same name again", many("fee m+m+m"), 3);
        due("both", many("dig f+1+r+2+a+3+n+4"), 8);
        due("of a text of 96 bytes", many("fee  " + "9+".repeat(45) + "m"), 46);
    }

    static void promise28ATextThatIsGone() {
        SpoonPassage x = new SpoonPassage();
        Due.text(x, "fee 1");
        x.keep();
        Due.text(x, "dig 2+2");
        due("there", x.textTold(1, 1), 2);
        x.back();
        due("gone", x.textTold(1, 1), BAD);
        due("the other is there", x.textTold(0, 0), 1);
    }

    // ---- 29

    static void promise29KeyIs0To2() {
        SpoonPassage x = threeTexts();
        for (int key = 0; key < 3; key++) {
            due("key " + key, x.why(key), key);
            int k = key;
            Edges.changesNothing(TextsEdgesTest::threeTexts, y -> y.why(k));
        }
        Edges.refuses(BAD, TextsEdgesTest::threeTexts, (y, v) -> y.why(v), -1, 3, LEAST, MOST);
    }

    static void promise29NoneIfNoneWasTold() {
        for (int told = 0; told < 3; told++) {
            SpoonPassage x = new SpoonPassage();
            Due.text(x, KEYS[told] + " 1");
            for (int key = 0; key < 3; key++) {
                due("of " + KEYS[told] + " alone, " + key, x.why(key), key == told ? 0 : NONE);
            }
        }
        Edges.refuses(NONE, Scenes::bare, (x, v) -> x.why(v), 0, 1, 2);
    }

    static void promise29ThatWhichWasToldLast() {
        SpoonPassage x = new SpoonPassage();
        Due.text(x, "fee 10");
        Due.text(x, "fee 11");
        Due.text(x, "fine 12");
        due("the second", x.why(1), 1);
        due("gives", x.fee(), 11);
        Due.text(x, "fee 13 13");
        due("one with a fault does not count", x.why(1), 1);
        due("gives", x.fee(), 11);
        Due.text(x, "fee 14");
        due("the last", x.why(1), 3);
        due("gives", x.fee(), 14);
    }

    static void promise29AsInTheImage() {
        SpoonPassage x = new SpoonPassage();
        Due.text(x, "fee 10");
        x.keep();
        Due.text(x, "fee 11");
        Due.text(x, "dig 12");
        x.back();
        due("fee", x.why(1), 0);
        due("gives", x.fee(), 10);
        due("dig", x.why(0), NONE);
    }
}
