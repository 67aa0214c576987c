/** The edges of the tape and of THE TEXT (promises 11 to 15): a method for each sentence that names one. */
public final class TextEdgesTest {
    private static final int NONE = CaneRounds.NONE;
    private static final int NOTHING = -2000000000;
    private static final int LEAST = Integer.MIN_VALUE;
    private static final int MOST = Integer.MAX_VALUE;
    private static final int BLANKS = 0x20202020;

    public static void main(String[] args) {
        feedTakesAHundred();
        feedRefusesMore();
        feedPutsTheHighestByteFirst();
        feedComesBehindTheTape();
        endTakesWhatItHas();
        endRefusesOthers();
        textEmptiesTheTape();
        textWithAFaultLeavesTheFormer();
        textOfNoByte();
        textOfAHundredBytes();
        faultOfOthers();
        faultIsOfTheLatestText();
        theTextAtFirst();
        blanksPartTokens();
        eachByteAlone();
        eachByteBehindALetter();
        lettersAreOneToken();
        numbersEndAt9999();
        ofOneTokenTheLeastFault();
        theFirstFaultCounts();
        theEndsFaultIsAtTheLength();
        whatCanStandWhere();
        theNinthThatIsOpen();
        whatIsClosedIsNotOpen();
        minAndMaxAreOpenAtTheirBracket();
        sumsAndProductsGoFromTheLeft();
        divisionCutsTo0();
        divisionBy0();
        whatIsAboveIsThat();
        whatIsBelowIsThat();
        tellsTakesItsBounds();
        tellsRefusesOthers();
        Due.finish();
    }

    private static int blanks(Mill x) {
        return x.feed(BLANKS, BLANKS, BLANKS, BLANKS, BLANKS);
    }

    /** A text of one's own stands, a tape has begun, and the latest text had a fault. */
    private static void inUse(Mill x) {
        Due.is("text", Due.text(x, "t*s-h+7"), true);
        Due.is("text", Due.text(x, "t*("), false);
        Due.feed(x, "b + m");
    }

    private static void feedTakesAHundred() {
        Due.by("11: Twenty bytes come behind the tape: how many it has");
        Mill x = new Mill();
        for (int i = 1; i <= 5; i++) {
            Due.is("feed", blanks(x), 20 * i);
            Due.is("bytes", x.about(10), 20 * i);
        }
        Mill y = new Mill();
        blanks(y);
        y.end(1);
        for (int i = 0; i < 4; i++) {
            Due.is("feed", blanks(y), 21 + 20 * i);
        }
        Due.is("81 and 20", blanks(y), NONE);
        y.end(80);
        Due.is("80 and 20", blanks(y), 100);
    }

    private static void feedRefusesMore() {
        Due.by("11: NONE, and none come, if there would be more than 100");
        for (int length : new int[] {81, 82, 99, 100}) {
            String text = "t*" + " ".repeat(length - 5) + "123";
            Refusal.isNone("feed behind " + length, x -> Due.feed(x, text), x -> x.feed(MOST, -1, LEAST, 0, BLANKS));
        }
        Mill x = new Mill();
        Due.feed(x, " ".repeat(80) + "9");
        Due.is("refused", x.feed(0x39393939, 0x39393939, 0x39393939, 0x39393939, 0x39393939), NONE);
        Due.is("bytes", x.about(10), 81);
        Due.is("text", x.text(), true);
        Due.is("no byte has come", x.tells(0, 0, 0, 0, 0), 9);
    }

    private static void feedPutsTheHighestByteFirst() {
        Due.by("11: Twenty bytes .. the highest of a first");
        for (int place = 0; place < 20; place++) {
            int[] words = {BLANKS, BLANKS, BLANKS, BLANKS, BLANKS};
            words[place / 4] ^= (' ' ^ '$') << 24 - 8 * (place % 4);
            Mill x = new Mill();
            x.feed(words[0], words[1], words[2], words[3], words[4]);
            Due.is("text", x.text(), false);
            Due.is("place", x.fault(1), place);
        }
        for (int place = 0; place < 20; place++) {
            int[] words = {BLANKS, BLANKS, BLANKS, BLANKS, BLANKS};
            words[place / 4] |= 255 << 24 - 8 * (place % 4);
            Mill x = new Mill();
            x.feed(words[0], words[1], words[2], words[3], words[4]);
            Due.is("byte 255 is none", x.text(), false);
            Due.is("its place", x.fault(1), place);
        }
    }

    private static void feedComesBehindTheTape() {
        Due.by("11: Twenty bytes come behind the tape");
        Mill x = new Mill();
        x.feed(0x31323334, 0x35363738, BLANKS, BLANKS, BLANKS);
        x.end(2);
        x.feed(0x2b34, 0, 0, 0, 0);
        Due.is("bytes", x.about(10), 22);
        x.end(4);
        Due.is("bytes of 0 are none", x.text(), false);
        Due.is("at", x.fault(1), 2);
        x.feed(0x31323334, 0x35363738, BLANKS, BLANKS, BLANKS);
        x.end(2);
        x.feed(0x2b342020, BLANKS, BLANKS, BLANKS, BLANKS);
        Due.is("text", x.text(), true);
        Due.is("12+4", x.tells(0, 0, 0, 0, 0), 16);
    }

    private static void endTakesWhatItHas() {
        Due.by("12: The tape has its first n bytes alone: n");
        Mill x = new Mill();
        Due.is("none of none", x.end(0), 0);
        x.feed(0x31323334, 0x35363738, BLANKS, BLANKS, BLANKS);
        Due.is("all", x.end(20), 20);
        Due.is("bytes", x.about(10), 20);
        Due.is("fewer", x.end(4), 4);
        Due.is("bytes", x.about(10), 4);
        Due.is("one", x.end(1), 1);
        Due.is("text", x.text(), true);
        Due.is("its first byte alone", x.tells(0, 0, 0, 0, 0), 1);
        blanks(x);
        Due.is("none", x.end(0), 0);
        Due.is("bytes", x.about(10), 0);
        for (int i = 0; i < 5; i++) {
            blanks(x);
        }
        Due.is("a hundred", x.end(100), 100);
    }

    private static void endRefusesOthers() {
        Due.by("12: NONE, and nothing is done, if it has not so many, or n is below 0");
        for (int n : new int[] {6, 7, 20, 21, 100, 101, -1, LEAST, MOST}) {
            Refusal.isNone("end(" + n + ")", TextEdgesTest::inUse, x -> x.end(n));
        }
        Refusal.isNone("end(1) of none", x -> { }, x -> x.end(1));
        Refusal.isNone("end(101) of a hundred", x -> {
            for (int i = 0; i < 5; i++) {
                blanks(x);
            }
        }, x -> x.end(101));
    }

    private static void textEmptiesTheTape() {
        Due.by("13: The tape (empty then) becomes THE TEXT: true");
        Mill x = new Mill();
        Due.feed(x, "s*2");
        Due.is("text", x.text(), true);
        Due.is("bytes", x.about(10), 0);
        Due.is("it tells", x.tells(0, 21, 0, 0, 0), 42);
        Due.is("end(1)", x.end(1), NONE);
        Due.is("feed", blanks(x), 20);
        Due.is("it tells on", x.tells(0, 21, 0, 0, 0), 42);
        Due.is("text", x.text(), false);
        Due.is("with a fault, too", x.about(10), 0);
    }

    private static void textWithAFaultLeavesTheFormer() {
        Due.by("13: False: it has a FAULT, the former one stays");
        Mill x = new Mill();
        Due.is("a fault", Due.text(x, "s s"), false);
        Due.is("the one at first stays", x.tells(5, 6, 7, 8, 9), 5);
        Due.is("text", Due.text(x, "m"), true);
        for (String wrong : new String[] {"", "h+", "10000", "---------h", "h)", "min(h)"}) {
            Due.is("text " + wrong, Due.text(x, wrong), false);
            Due.is("the former stays behind " + wrong, x.tells(5, 6, 7, 8, 9), 7);
        }
        Due.is("text", Due.text(x, "h"), true);
        Due.is("the new one", x.tells(5, 6, 7, 8, 9), 9);
    }

    private static void faultIs(String text, int fault, int place) {
        Mill x = new Mill();
        Due.is("text \"" + text + "\"", Due.text(x, text), fault == 0);
        Due.is("fault of \"" + text + "\"", x.fault(0), fault);
        Due.is("place in \"" + text + "\"", x.fault(1), place);
        Due.is("tape behind \"" + text + "\"", x.about(10), 0);
    }

    private static void isGood(String text) {
        faultIs(text, 0, NONE);
    }

    private static void textOfNoByte() {
        Due.by("FAULTS .. of the end at the length: an empty text");
        faultIs("", 1, 0);
        faultIs(" ", 1, 1);
        faultIs(" ".repeat(99), 1, 99);
        faultIs(" ".repeat(100), 1, 100);
        Mill x = new Mill();
        Due.is("a tape that was never fed", x.text(), false);
        Due.is("fault", x.fault(0), 1);
        Due.is("place", x.fault(1), 0);
    }

    private static void textOfAHundredBytes() {
        Due.by("THE TEXT (up to 100 bytes)");
        isGood("t" + "+1".repeat(49) + " ");
        isGood("-t" + "+1".repeat(49));
        isGood(" ".repeat(99) + "t");
        isGood("t" + " ".repeat(99));
        isGood("0".repeat(96) + "9999");
        faultIs("0".repeat(95) + "10000", 2, 0);
        faultIs("t".repeat(100), 1, 0);
        faultIs(" ".repeat(99) + ")", 1, 99);
        faultIs(" ".repeat(95) + "10000", 2, 95);
        faultIs("t+".repeat(50), 1, 100);
        Mill x = new Mill();
        Due.is("text", Due.text(x, "-t" + "+t".repeat(49)), true);
        Due.is("its last token counts", x.tells(10, 0, 0, 0, 0), 480);
        Due.is("text", Due.text(x, "t" + "*1".repeat(48) + "+25"), true);
        Due.is("its last byte counts", x.tells(10, 0, 0, 0, 0), 35);
    }

    private static void faultOfOthers() {
        Due.by("14: NONE for others, and ahead of any");
        Mill x = new Mill();
        for (int what : new int[] {0, 1, -1, 2, LEAST, MOST}) {
            Due.is("ahead of any, fault(" + what + ")", x.fault(what), NONE);
        }
        Due.feed(x, "t)");
        Due.is("a tape is no text yet", x.fault(0), NONE);
        for (int good = 0; good < 2; good++) {
            x.text();
            for (int what : new int[] {-1, 2, 3, LEAST, MOST}) {
                Due.is("fault(" + what + ")", x.fault(what), NONE);
            }
            Due.feed(x, "t");
        }
    }

    private static void faultIsOfTheLatestText() {
        Due.by("14: Of the latest text(): 0 its FAULT (0 without), 1 its place (NONE without)");
        Mill x = new Mill();
        Due.text(x, "t +");
        Due.is("fault", x.fault(0), 1);
        Due.is("place", x.fault(1), 3);
        x.tells(1, 2, 3, 4, 5);
        x.hours(24);
        Due.feed(x, "  10000");
        Due.is("the latest text's still", x.fault(0), 1);
        Due.is("its place still", x.fault(1), 3);
        x.text();
        Due.is("fault", x.fault(0), 2);
        Due.is("place", x.fault(1), 2);
        Due.text(x, "t");
        Due.is("without", x.fault(0), 0);
        Due.is("without a place", x.fault(1), NONE);
        Due.text(x, "(((((((((");
        Due.is("fault", x.fault(0), 3);
        Due.is("place", x.fault(1), 8);
    }

    private static void theTextAtFirst() {
        Due.by("THE TEXT .. at first 1 * t");
        Mill x = new Mill();
        Due.is("t", x.tells(17, 2, 3, 4, 5), 17);
        Due.is("the most", x.tells(1000000, 0, 0, 0, 0), 1000000);
        Due.is("the least", x.tells(-1000000, 0, 0, 0, 0), -1000000);
    }

    private static void blanksPartTokens() {
        Due.by("TOKENS, blanks (32) aside");
        isGood("  (  t  +  12  )  *  min  (  s  ,  -  m  )  ");
        faultIs("t t", 1, 2);
        faultIs("mi n(t,s)", 1, 0);
        faultIs("m in(t,s)", 1, 2);
        faultIs("1 2", 1, 2);
        faultIs("t\t", 1, 1);
        faultIs("t\n", 1, 1);
        faultIs("t\u001f", 1, 1);
        faultIs("t!", 1, 1);
        faultIs("t\u00a0", 1, 1);
    }

    private static boolean isLetter(int c) {
        return c >= 'a' && c <= 'z' || c >= 'A' && c <= 'Z';
    }

    private static void eachByteAlone() {
        Due.by("FAULTS: 1 it can't stand there, or is none: each byte alone");
        for (int c = 0; c < 256; c++) {
            String text = String.valueOf((char) c);
            if ("tsmbh0123456789".indexOf(c) >= 0) {
                isGood(text);
            } else {
                faultIs(text, 1, " (-".indexOf(c) >= 0 ? 1 : 0);
            }
        }
    }

    private static void eachByteBehindALetter() {
        Due.by("FAULTS: 1 it can't stand there, or is none: each byte behind a letter");
        for (int c = 0; c < 256; c++) {
            String text = "t" + (char) c;
            if (c == ' ') {
                isGood(text);
            } else if (isLetter(c)) {
                faultIs(text, 1, 0);
            } else {
                faultIs(text, 1, "+-*/".indexOf(c) >= 0 ? 2 : 1);
            }
        }
    }

    private static void lettersAreOneToken() {
        Due.by("letters one behind the other (one TOKEN: t s m b h, min, max alone are told)");
        for (String name : new String[] {"t", "s", "m", "b", "h", "min(t,t)", "max(t,t)"}) {
            isGood(name);
        }
        for (String name : new String[] {"tt", "ts", "mi", "ma", "mix", "man", "nim", "minn", "maxx", "tmin", "mint",
            "minmax", "in", "ax", "nin", "kax", "mio", "mbx", "maw"}) {
            faultIs("  " + name + "(t,t)", 1, 2);
        }
        faultIs("  min t(t,t)", 1, 6);
        faultIs("t+st", 1, 2);
        faultIs("Min(t,t)", 1, 0);
        faultIs("mAx(t,t)", 1, 0);
        faultIs("t1", 1, 1);
        faultIs("1t", 1, 1);
        faultIs("min1(t,t)", 1, 3);
    }

    private static void numbersEndAt9999() {
        Due.by("NUMBERS, 0 .. 9999; 2 a NUMBER above 9999");
        isGood("0");
        isGood("9999");
        isGood("000000000000000000009999");
        faultIs("10000", 2, 0);
        faultIs("  00010000", 2, 2);
        faultIs("99999", 2, 0);
        faultIs("2147483648", 2, 0);
        faultIs("4294967296", 2, 0);
        faultIs("18446744073709551616", 2, 0);
        faultIs("t*(s+10000)", 2, 5);
        faultIs("-10000", 2, 1);
        Mill x = new Mill();
        Due.text(x, "0");
        Due.is("the least", x.tells(1, 1, 1, 1, 1), 0);
        Due.text(x, "9999");
        Due.is("the most", x.tells(1, 1, 1, 1, 1), 9999);
        Due.text(x, "0009998+1");
        Due.is("noughts ahead", x.tells(1, 1, 1, 1, 1), 9999);
    }

    private static void ofOneTokenTheLeastFault() {
        Due.by("FAULTS .. of one the least");
        faultIs("t 10000", 1, 2);
        faultIs("(t) 10000", 1, 4);
        faultIs("9999 10000", 1, 5);
        faultIs("min 10000", 1, 4);
        faultIs("((((((((t(", 1, 9);
        faultIs("((((((((t)(", 1, 10);
        faultIs("((((((((min-t", 1, 11);
        faultIs("--------min-t", 1, 11);
    }

    private static void theFirstFaultCounts() {
        Due.by("FAULTS, the first as TOKENS are come to");
        faultIs("10000 )", 2, 0);
        faultIs(") 10000", 1, 0);
        faultIs("10000+((((((((((", 2, 0);
        faultIs("(((((((((10000", 3, 8);
        faultIs("((((((((10000(", 2, 8);
        faultIs("$ 10000", 1, 0);
        faultIs("10000 $", 2, 0);
        faultIs("t+x+10000", 1, 2);
        faultIs("min(10000)", 2, 4);
        faultIs("(t $", 1, 3);
    }

    private static void theEndsFaultIsAtTheLength() {
        Due.by("FAULTS .. (of the end at the length)");
        faultIs("t+", 1, 2);
        faultIs("t+  ", 1, 4);
        faultIs("(t", 1, 2);
        faultIs("(t  ", 1, 4);
        faultIs("-", 1, 1);
        faultIs("min", 1, 3);
        faultIs("max ", 1, 4);
        faultIs("min(", 1, 4);
        faultIs("min(t", 1, 5);
        faultIs("min(t,", 1, 6);
        faultIs("min(t,s", 1, 7);
        faultIs("min(t,s ", 1, 8);
        faultIs("--------", 1, 8);
        faultIs("((((((((", 1, 8);
    }

    private static void whatCanStandWhere() {
        Due.by("SUM: PRODUCT {+ or - PRODUCT}. PRODUCT: ONE {* or / ONE}. ONE: NUMBER, letter, ( SUM ), min, max, - ONE");
        for (String good : new String[] {"t+s-m*b/h", "-t", "--t", "t--s", "t*-s", "t/-(s)", "(t)", "((t))", "(t+s)*(m)",
            "min(t,s)", "max(t+s,m*b)", "-min(-t,-s)", "min(min(t,s),max(m,b))", "min((t),(s))"}) {
            isGood(good);
        }
        faultIs("+t", 1, 0);
        faultIs("*t", 1, 0);
        faultIs("/t", 1, 0);
        faultIs(",t", 1, 0);
        faultIs(")t", 1, 0);
        faultIs("t++s", 1, 2);
        faultIs("t-+s", 1, 2);
        faultIs("t+*s", 1, 2);
        faultIs("t**s", 1, 2);
        faultIs("t*/s", 1, 2);
        faultIs("()", 1, 1);
        faultIs("(t", 1, 2);
        faultIs("(t))", 1, 3);
        faultIs("(t,s)", 1, 2);
        faultIs("t,s", 1, 1);
        faultIs("min()", 1, 4);
        faultIs("min(t)", 1, 5);
        faultIs("min(t,)", 1, 6);
        faultIs("min(,t)", 1, 4);
        faultIs("min(t,s,m)", 1, 7);
        faultIs("min(t s)", 1, 6);
        faultIs("min t,s", 1, 4);
        faultIs("min+t", 1, 3);
        faultIs("max,", 1, 3);
        faultIs("max)", 1, 3);
        faultIs("min((t,s))", 1, 6);
        faultIs("min(t,s)t", 1, 8);
        faultIs("(t)(s)", 1, 3);
        faultIs("2(s)", 1, 1);
        faultIs("t min(t,s)", 1, 2);
    }

    private static void theNinthThatIsOpen() {
        Due.by("3 the 9th of ( and - (of one ONE) that are open around one another (at it)");
        for (int signs = 0; signs < 512; signs++) {
            StringBuilder open = new StringBuilder();
            StringBuilder closed = new StringBuilder();
            for (int i = 0; i < 9; i++) {
                boolean bracket = (signs >> i & 1) == 1;
                open.append(bracket ? "(" : "-");
                closed.append(i < 8 && bracket ? ")" : "");
            }
            isGood(open.substring(0, 8) + "t" + closed);
            faultIs(open.toString(), 3, 8);
            faultIs(open + "t", 3, 8);
        }
        faultIs("t+(((((((( (t", 3, 11);
        faultIs("((((((((t+s*-m", 3, 12);
        isGood("((((((((t-s-m*b))))))))");
    }

    private static void whatIsClosedIsNotOpen() {
        Due.by("3 .. that are open around one another");
        String eight = "((((((((t))))))))";
        isGood(eight + "+" + eight);
        isGood(eight + "-" + eight);
        isGood(eight + "*" + eight + "/" + eight);
        isGood("-t*" + eight);
        isGood("-t-" + eight);
        isGood("-(t)/" + eight);
        isGood("--------t+--------t");
        isGood("--------t*--------t");
        isGood("(-------t-------t-------t)");
        isGood("-(t)" + "*(-(t))".repeat(13));
        faultIs("-" + eight, 3, 8);
        faultIs("t*-" + eight, 3, 10);
        faultIs("t--" + eight, 3, 10);
        faultIs("(t+" + eight + ")", 3, 10);
        faultIs(eight + "*" + eight + "*(" + eight + ")", 3, 44);
    }

    private static void minAndMaxAreOpenAtTheirBracket() {
        Due.by("3 .. (at it, min and max at their ( )");
        isGood("min(max(min(max(min(max(min(max(t,0),0),0),0),0),0),0),0)");
        faultIs("min(min(min(min(min(min(min(min(min(t", 3, 35);
        faultIs("min(min(min(min(min(min(min(min(max  (t", 3, 37);
        faultIs("((((((((min(t,s)", 3, 11);
        faultIs("((((((((max (t,s)", 3, 12);
        isGood("(((((((min(t,s))))))))");
        faultIs("(((((((min(-t,s)", 3, 11);
        faultIs("(((((((min(t,-s)", 3, 13);
        faultIs("(((((((min(t,(s)", 3, 13);
        isGood("min(-------t,-------s)");
        isGood("min(t,s)+((((((((t))))))))");
        isGood("max(min(t,s),((((((t)))))))");
        isGood("max(min(t,s),(((((((t))))))))");
        faultIs("max(min(t,s),((((((((t", 3, 20);
        faultIs("((((((((min", 1, 11);
    }

    private static void tell(String text, int due) {
        Mill x = new Mill();
        Due.is("text " + text, Due.text(x, text), true);
        Due.is("tells of " + text, x.tells(11, 7, 5, 3, 2), due);
    }

    private static void sumsAndProductsGoFromTheLeft() {
        Due.by("From the left");
        tell("t-s-m", -1);
        tell("t-(s-m)", 9);
        tell("t-s+m", 9);
        tell("t/b/h", 1);
        tell("t/(b/h)", 11);
        tell("t/b*h", 6);
        tell("t*b/h", 16);
        tell("t+s*m", 46);
        tell("(t+s)*m", 90);
        tell("t*s+m*b", 92);
        tell("-t+s", -4);
        tell("-(t+s)", -18);
        tell("-t*-s", 77);
        tell("t---s", 4);
        tell("min(t,s)", 7);
        tell("min(s,t)", 7);
        tell("max(t,s)", 11);
        tell("max(s,t)", 11);
        tell("min(-t,-s)", -11);
        tell("max(-t,-s)", -7);
        tell("min(t,t)", 11);
    }

    private static void divisionCutsTo0() {
        Due.by("/ cuts to 0");
        tell("t/m", 2);
        tell("-t/m", -2);
        tell("t/-m", -2);
        tell("-t/-m", 2);
        tell("(0-t)/m", -2);
        tell("s/t", 0);
        tell("-s/t", 0);
        tell("10/5", 2);
        tell("9/5", 1);
        tell("-9/5", -1);
    }

    private static void divisionBy0() {
        Due.by("/ .. by 0 it is 0");
        tell("t/0", 0);
        tell("-t/0", 0);
        tell("0/0", 0);
        tell("t/(s-s)", 0);
        tell("t/(h/b)", 0);
        tell("t/0+m", 5);
        tell("m+t/0*s", 5);
        tell("t/(t/0)", 0);
    }

    private static void whatIsAboveIsThat() {
        Due.by("what is above 1000000000 is that, at each step");
        tell("1000*1000*1000", 1000000000);
        tell("1000*1000*1000-1", 999999999);
        tell("1000*1000*1000+1", 1000000000);
        tell("1000*1000*1000+1-1", 999999999);
        tell("1000*1000*1000-1+1", 1000000000);
        tell("1000*1000*1000--1-1", 999999999);
        tell("1000*1000*1000*2/2", 500000000);
        tell("1000*1000*1001/1000", 1000000);
        tell("1000*1000*999+1000*1000", 1000000000);
        tell("1000*1000*999+1000*1000+1", 1000000000);
        tell("9999*9999*9999*(9999*9999*9999)", 1000000000);
        tell("(0-1000*1000*1000)*(0-1000*1000*1000)", 1000000000);
        tell("9999*9999*10", 999800010);
        tell("9999*9999*10+9999*20", 999800010 + 199980);
        tell("9999*9999*10+9999*20+10-1", 999999999);
        tell("9999*9999*10+9999*20+11-1", 999999999);
        Mill x = new Mill();
        Due.text(x, "t*s-1");
        Due.is("1000000 by 1000", x.tells(1000000, 1000, 0, 0, 0), 999999999);
        Due.is("1000000 by 1001", x.tells(1000000, 1001, 0, 0, 0), 999999999);
        Due.is("1000000 by 1000000", x.tells(1000000, 1000000, 0, 0, 0), 999999999);
        Due.is("both below 0", x.tells(-1000000, -1000000, 0, 0, 0), 999999999);
        Due.is("a product that an int would wrap", x.tells(65536, 65536, 0, 0, 0), 999999999);
    }

    private static void whatIsBelowIsThat() {
        Due.by("(below the same less)");
        tell("-1000*1000*1000", -1000000000);
        tell("-1000*1000*1000+1", -999999999);
        tell("-1000*1000*1000-1", -1000000000);
        tell("-1000*1000*1000-1+1", -999999999);
        tell("-1000*1000*1001/1000", -1000000);
        tell("0-1000*1000*999-1000*1000-1+1", -999999999);
        tell("-9999*9999*9999*(9999*9999*9999)", -1000000000);
        tell("-(1000*1000*1000)", -1000000000);
        tell("--(0-1000*1000*1000)", -1000000000);
        tell("-(0-1000*1000*1000)", 1000000000);
        Mill x = new Mill();
        Due.text(x, "t*s+1");
        Due.is("-1000000 by 1000", x.tells(-1000000, 1000, 0, 0, 0), -999999999);
        Due.is("-1000000 by 1001", x.tells(-1000000, 1001, 0, 0, 0), -999999999);
        Due.is("1000000 by -1000000", x.tells(1000000, -1000000, 0, 0, 0), -999999999);
    }

    private static int tellsWith(Mill x, int place, int value) {
        int[] v = {1, 20, 300, 4000, 50000};
        v[place] = value;
        return x.tells(v[0], v[1], v[2], v[3], v[4]);
    }

    private static void tellsTakesItsBounds() {
        Due.by("15: What THE TEXT tells with these (each -1000000 to 1000000)");
        String[] letters = {"t", "s", "m", "b", "h"};
        int[] plain = {1, 20, 300, 4000, 50000};
        for (int i = 0; i < letters.length; i++) {
            Mill x = new Mill();
            Due.text(x, letters[i]);
            for (int j = 0; j < letters.length; j++) {
                Due.is("the most", tellsWith(x, j, 1000000), i == j ? 1000000 : plain[i]);
                Due.is("the least", tellsWith(x, j, -1000000), i == j ? -1000000 : plain[i]);
                Due.is("0", tellsWith(x, j, 0), i == j ? 0 : plain[i]);
            }
        }
    }

    private static void tellsRefusesOthers() {
        Due.by("15: -2000000000 for others");
        for (int place = 0; place < 5; place++) {
            int i = place;
            for (int wrong : new int[] {1000001, -1000001, LEAST, MOST, 1000000000, NOTHING}) {
                Due.is("a text that needs none", tellsWith(ofSeven(), i, wrong), NOTHING);
            }
            Refusal.answers("tells", TextEdgesTest::inUse, x -> tellsWith(x, i, 1000001), NOTHING);
        }
    }

    private static Mill ofSeven() {
        Mill x = new Mill();
        Due.is("text", Due.text(x, "7"), true);
        return x;
    }
}
