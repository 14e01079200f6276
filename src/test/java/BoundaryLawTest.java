/** Boundary cases of promises 11, 13 and 15: laws, where their texts can't go on, the one in force. */
public final class BoundaryLawTest extends Boundary {
    private static final int[] ROW = {5, 2, 1, 2, 3, 4, 6};

    public static void main(String[] args) throws Exception {
        new BoundaryLawTest().runAll(args);
    }

    private void taken(String text) {
        RookHouse x = new RookHouse();
        due("law() of " + text, law(x, text), 0);
        due("fault() of " + text, x.fault(), NONE);
        due("bytes behind " + text, x.count(6), 0);
        due("LAWS behind " + text, x.count(4), 1);
    }

    private void fails(String text, int place) {
        RookHouse x = new RookHouse();
        text(x, text);
        refuses(x, -6, "law() of " + text, () -> x.law());
        due("fault() of " + text, x.fault(), place);
        due("bytes behind " + text, x.count(6), 0);
    }

    /** With how much voice a member of voice 5 speaks on bill 0; 7, if the sum does not hold. */
    private void tells(String sum, int told) {
        due(sum, under("speaks 7;speaks " + sum, ROW).asks(0, 0, 0), told);
    }

    private void asksWhether(String test, boolean so) {
        due(test, under("bars if " + test, ROW).asks(0, 0, 2), so ? 1 : 0);
    }

    void p11SixAtMost() {
        says("LAWS, 6 at most");
        RookHouse x = one();
        for (int i = 0; i < 6; i++) {
            due("law()", law(x, "speaks " + i), i);
        }
        text(x, "speaks 9");
        refuses(x, -5, "a seventh", () -> x.law());
        due("LAWS", x.count(4), 6);
        for (int i = 0; i < 6; i++) {
            x.force(i);
            due("law " + i + " is as it was", x.asks(0, 0, 0), i);
        }
    }

    void p11NoRoomAheadOfReading() {
        says("-5 (ahead of reading it; the TAPE is empty then, too)");
        RookHouse x = one();
        for (int i = 0; i < 6; i++) {
            law(x, "bars");
        }
        text(x, "nonsense");
        refuses(x, -5, "law() of nonsense", () -> x.law());
        due("bytes", x.count(6), 0);
        due("fault()", x.fault(), NONE);
        refuses(x, -5, "law() of nothing", () -> x.law());
    }

    void p11BlanksAlone() {
        says("-6 (blanks alone: FAULT at the end)");
        fails("", 0);
        fails(" ", 1);
        fails("    ", 4);
        fails(" ".repeat(400), 400);
    }

    void p11LeavesWhatCanBeUndone() {
        says("It leaves what can be undone.");
        RookHouse x = one();
        x.go(0);
        law(x, "bars");
        due("behind a law", x.count(5), 1);
        law(x, "nonsense");
        due("behind a refused one", x.count(5), 1);
        due("undo()", x.undo(), 1);
    }

    void p11TapeOfFourHundredBytes() {
        says("TEXTS are on a TAPE of at most 400 bytes.");
        taken("speaks" + " ".repeat(393) + "1");
        taken("bars" + " ".repeat(396));
        taken(" ".repeat(396) + "bars");
        fails(" ".repeat(395) + "speak", 395);
        fails("speaks" + " ".repeat(394), 400);
        fails("speaks" + " ".repeat(390) + "1001", 396);
        fails("a".repeat(400), 0);
        fails("1".repeat(400), 0);
        fails("(".repeat(400), 0);
        taken("bars if " + "not ".repeat(97) + "1=1 ");
        taken("bars if" + " not".repeat(97) + "(1=1)");
    }

    void p11LongestRows() {
        says("TOKENS: longest rows of letters a .. z, of digits, single other bytes, any blanks (32) between.");
        taken("bars if1=1");
        taken("speaks1if1=1or 1=1and(1=1)");
        taken("speaks  1   +  1  ;  bars");
        fails("barsif 1=1", 0);
        fails("bar s", 0);
        fails("barsz", 0);
        fails("abars", 0);
        fails("zbars", 0);
        fails("speaks 1z", 8);
        fails("speaks 1 0", 9);
        fails("bars if 1 = 1 and1 = 1 or2", 26);
        fails("Bars", 0);
        fails("barS", 0);
        fails("barsS", 4);
        fails("bars`", 4);
        fails("bars{", 4);
        fails("speaks 1/", 9);
        fails("speaks 1:", 8);
        fails("bars\t", 4);
        fails("bars\n;bars", 4);
        fails("bars" + (char) 31, 4);
        fails("bars!", 4);
        fails("bars" + (char) 0, 4);
        fails((char) 255 + "bars", 0);
        fails("bars" + (char) 160, 4);
        fails("bars if 1==1", 10);
        fails("bars if 1<=1", 10);
        fails("speaks z", 7);
        fails("speaks wanta", 7);
    }

    void p11TwelveClauses() {
        says("12 at most (FAULT at the 13th's first TOKEN)");
        taken("bars;".repeat(11) + "bars");
        fails("bars;".repeat(12) + "bars", 60);
        fails("bars;".repeat(12) + "  bars;bars", 62);
        fails("bars;".repeat(12) + "speaks 1", 60);
        fails("bars;".repeat(12) + "+", 60);
        fails("bars;".repeat(12) + " ", 61);
        fails("bars;".repeat(11) + "bars+", 59);
        RookHouse x = under("wants 1;".repeat(11) + "wants 9", ROW);
        due("the twelfth is asked", x.asks(0, 0, 1), 9);
    }

    void p11NumberTooLarge() {
        says("NUMBER (to 1,000)");
        taken("speaks 0");
        taken("speaks 1000");
        fails("speaks 1001", 7);
        fails("speaks 1+1001", 9);
        fails("speaks 10000", 7);
        fails("speaks 2147483648", 7);
        fails("speaks 4294967297", 7);
        fails("speaks 18446744073709551617", 7);
        fails("bars if 1=1001", 10);
        tells("1000/500", 2);
        tells("1000%999", 1);
    }

    void p11FiftyParts() {
        says("50 PARTS that are NUMBERS and words (FAULT at the 51st)");
        taken("speaks 1" + "+1".repeat(49));
        fails("speaks 1" + "+1".repeat(50), 107);
        taken("speaks day" + "+day".repeat(49));
        fails("speaks day" + "+day".repeat(50), 207);
        taken("speaks [1]" + "+[1]".repeat(49));
        fails("speaks [1]" + "+[1]".repeat(50), 208);
        fails("speaks 1" + "+1".repeat(49) + "+x", 107);
        fails("speaks 1" + "+1".repeat(49) + "+1001", 107);
        fails("speaks 1" + "+1".repeat(49) + " 1", 107);
        fails("speaks 1" + "+1".repeat(49) + " if 1=1", 110);
        taken("speaks 1" + "+1".repeat(47) + " if 1=1");
        fails("speaks 1" + "+1".repeat(48) + " if 1=1", 110);
    }

    void p11FiftyPartsOfAllClauses() {
        says("50 PARTS that are NUMBERS and words (FAULT at the 51st)");
        String half = "speaks 1" + "+1".repeat(24);
        taken(half + ";" + half);
        fails(half + ";" + half + "+1", 2 * half.length() + 2);
        taken(half + ";" + half + ";bars");
        fails(half + ";" + half + ";speaks 1", 2 * half.length() + 9);
    }

    void p11EachTextAnew() {
        says("50 PARTS that are NUMBERS and words (FAULT at the 51st)");
        RookHouse x = one();
        String parts = "wants 9;speaks 1" + "+1".repeat(44);
        String brackets = "bars if " + "(".repeat(8) + "1=2" + ")".repeat(8);
        for (int i = 0; i < 6; i++) {
            due("law()", law(x, parts + "-40-" + i + ";bars if bill=4"), i);
            due("one more", law(x, parts + "+1".repeat(5) + ";bars"), i < 5 ? -6 : -5);
            x.force(i);
            due("speaks", x.asks(0, 0, 0), 5 - i);
            due("is barred", x.asks(0, 4, 2), 1);
        }
        RookHouse y = one();
        for (int i = 0; i < 6; i++) {
            due("law()", law(y, brackets), i);
        }
    }

    void p11EightBrackets() {
        says("8 brackets of both kinds within one another (FAULT at the 9th) at most.");
        for (int n = 0; n <= 8; n++) {
            String open = "(".repeat(n) + "[".repeat(8 - n);
            String shut = "]".repeat(8 - n) + "=1" + ")".repeat(n);
            taken("bars if " + open + "1" + shut);
            fails("bars if " + "(".repeat(n) + "[".repeat(9 - n) + "1" + "]".repeat(9 - n) + "=1" + ")".repeat(n), 16);
            asksWhether(open + "1" + shut, true);
            asksWhether(open + "2" + shut, false);
        }
        fails("bars if " + "(".repeat(9) + "1=1" + ")".repeat(9), 16);
        fails("bars if " + "(not ".repeat(8) + "(1=1)" + ")".repeat(8), 48);
        taken("speaks " + "[".repeat(8) + "1" + "]".repeat(8));
        fails("speaks " + "[".repeat(9) + "1" + "]".repeat(9), 15);
        fails("speaks " + "[".repeat(9), 15);
        taken("speaks " + "[1]+".repeat(9) + "[1]");
        taken("bars if " + "(1=1)and".repeat(9) + "(1=1)");
        taken("speaks " + "[".repeat(8) + "1" + "]".repeat(8) + "+" + "[".repeat(8) + "1" + "]".repeat(8));
    }

    void p11FirstTokenThatCantGoOn() {
        says("FAULT: the first TOKEN that can't go on there (the end's: the TEXT's length).");
        String[] texts = {";", "bars;;bars", "bars bars", "bars 1", "bars times 2", "speaks", "speaks ", "speaks if 1=1", "speaks (1)",
            "speaks -1", "speaks +1", "speaks 1+", "speaks 1*", "speaks 1++1", "speaks 1 wants 2", "speaks [1", "speaks [1)", "speaks []",
            "speaks 1]", "speaks 1 if", "speaks 1 if 1", "speaks 1 if 1=", "speaks 1 if 1=1 if 1=1", "bars if 1=1=1", "bars if (1=1",
            "bars if (1=1]", "bars if (1)=1", "bars if [1=1]", "bars if ()", "bars if 1=1 or", "bars if or 1=1", "bars if 1=1 and",
            "bars if not", "bars if 1=not 1", "bars if not not", "if 1=1", "bars;", "put 1", "speaks done", "speaks for 1", "speaks voice 1",
            "speaks latest", "speaks standing", "bars if if", "speaks speaks", "wants bars", "speaks 1,bars"};
        int[] places = {0, 5, 5, 5, 5, 6, 7, 7, 7, 7, 7, 9, 9, 9, 9, 9, 9, 8, 8, 11, 13, 14, 16, 11, 12, 12, 10, 10, 9, 14, 8, 15, 11, 10,
            15, 0, 5, 0, 7, 7, 13, 7, 7, 8, 7, 6, 8};
        for (int i = 0; i < texts.length; i++) {
            fails(texts[i], places[i]);
        }
        fails("bars   ;   ", 11);
        fails("  bars if 1=1  x", 15);
    }

    void p11BeyondAThousandMillions() {
        says("Beyond 1,000,000,000 either way");
        String most = "1000*1000*1000";
        tells(most + "-" + most + "+3", 3);
        tells(most + "+1-" + most, 7);
        tells(most + "+0-" + most + "+3", 3);
        tells("0-" + most + "+" + most + "+3", 3);
        tells("0-" + most + "-1+" + most + "+3", 7);
        tells("[0-1000]*1000*1000+" + most + "+3", 3);
        tells("1000*1000*1000*2/2/1000/1000/1000", 7);
        tells("[" + most + "]*[" + most + "]*0", 7);
        tells("0*[" + most + "*1000]", 7);
        tells("[0-" + most + "]*[" + most + "]", 7);
        asksWhether(most + ">0", true);
        asksWhether(most + "+1>0", false);
        asksWhether("0<" + most + "+1", false);
        asksWhether("not " + most + "+1<0", false);
        asksWhether("0-" + most + "<0", true);
        asksWhether("0-" + most + "-1<0", false);
    }

    void p11DividedByZero() {
        says("or divided by 0");
        tells("1/0", 7);
        tells("0/0", 7);
        tells("1%0", 7);
        tells("0%0", 7);
        tells("1/[bill-bill]", 7);
        tells("0*[1/0]", 7);
        tells("0/1+2", 2);
        tells("0%1+2", 2);
        RookHouse x = under("speaks 7;speaks 8/bill", ROW);
        int[] by = {7, 8, 4, 2, 2};
        for (int b = 0; b < 5; b++) {
            due("8/" + b, x.asks(0, b, 0), by[b]);
        }
    }

    void p11CutTowardsZero() {
        says("(/ cut towards 0, % what is left then)");
        tells("7/2", 3);
        tells("[0-7]/2+5", 2);
        tells("7/[0-2]+5", 2);
        tells("[0-7]/[0-2]", 3);
        tells("7%2", 1);
        tells("[0-7]%2+5", 4);
        tells("7%[0-2]", 1);
        tells("[0-7]%[0-2]+5", 4);
        tells("1/2", 0);
        tells("[0-1]/2", 0);
        tells("1%[0-2]+5", 6);
    }

    void p11AsksOnlyWhatCanStillMatter() {
        says("(\"or\", \"and\" ask what stands behind only if it can still matter)");
        asksWhether("1=1 or 1/0=1", true);
        asksWhether("1=2 or 1/0=1", false);
        asksWhether("1/0=1 or 1=1", false);
        asksWhether("not(1=2 and 1/0=1)", true);
        asksWhether("not(1=1 and 1/0=1)", false);
        asksWhether("not(1/0=1 and 1=2)", false);
        asksWhether("1=2 and 1/0=1 or 1=1", true);
        asksWhether("1=1 or 1/0=1 and 1/0=1", true);
        asksWhether("1=1 or 1=1 or 1/0=1", true);
        asksWhether("1=1 and 1=2 and 1/0=1 or 2=2", true);
        asksWhether("(1=1 or 1/0=1)and 1=1", true);
        asksWhether("1=2 or 1=1 or 1/0=1", true);
    }

    void p11JustLessMoreAlike() {
        says("SUM (\"<\" | \">\" | \"=\") SUM");
        asksWhether("1<2", true);
        asksWhether("2<2", false);
        asksWhether("3<2", false);
        asksWhether("1>2", false);
        asksWhether("2>2", false);
        asksWhether("3>2", true);
        asksWhether("1=2", false);
        asksWhether("2=2", true);
        asksWhether("0-1<0", true);
    }

    void p11WhichBindsFirst() {
        says("TEST: BOTH {\"or\" BOTH}. BOTH: PLAIN {\"and\" PLAIN}. PLAIN: \"not\" PLAIN | \"(\" TEST \")\"");
        asksWhether("1=1 or 1=1 and 1=2", true);
        asksWhether("(1=1 or 1=1)and 1=2", false);
        asksWhether("not 1=2 and 1=2", false);
        asksWhether("not(1=2 and 1=2)", true);
        asksWhether("not not 1=1", true);
        asksWhether("not not not 1=1", false);
        asksWhether("not 1=1 or 1=1", true);
        tells("2+3*2", 8);
        tells("[2+1]*3", 9);
        tells("9-2-3", 4);
        tells("8/2/2", 2);
        tells("2*7%4", 2);
    }

    void p11WordsOfAMemberAndABill() {
        says("(want: its WANT of that BILL; stands: whether the BILL STANDS, 1, 0; here: how many MEMBERS are HERE)");
        String[] words = {"member", "voice", "side", "bill", "want", "stands", "here", "day", "mood"};
        int[] told = {1, 8, 3, 4, 6, 1, 2, 9, 7};
        for (int i = 0; i < words.length; i++) {
            RookHouse x = under("wants 9;speaks " + words[i], 1, 1, 1, 1, 1, 1, 1, 8, 3, 2, 2, 2, 2, 6, 1, 0, 0, 0, 0, 0, 0);
            x.force(NONE);
            x.sway(0, 4, 9);
            x.put(4);
            x.force(0);
            x.terms(0, 9);
            x.terms(2, 7);
            x.go(0);
            due(words[i], x.asks(1, 4, 0), told[i]);
        }
        RookHouse x = under("speaks here;wants stands", ROW);
        x.go(0);
        due("here: nobody", x.asks(0, 0, 0), 0);
        due("stands: not", x.asks(0, 0, 1), 0);
    }

    void p13NoneWithout() {
        says("FAULT of the latest law(), orders() that read a TEXT: its place; NONE without.");
        RookHouse x = one();
        due("ahead of any", x.fault(), NONE);
        law(x, "x");
        due("behind a fault", x.fault(), 0);
        law(x, "bars");
        due("behind a law", x.fault(), NONE);
        orders(x, "pass x");
        due("behind a fault of orders", x.fault(), 5);
        orders(x, "go 1");
        due("behind orders that can't be", x.fault(), NONE);
        law(x, " x");
        orders(x, "pass");
        due("behind orders", x.fault(), NONE);
    }

    void p13LawWithoutRoomReadsNothing() {
        says("that read a TEXT");
        RookHouse x = one();
        for (int i = 0; i < 6; i++) {
            law(x, "bars");
        }
        orders(x, "pass;pass x");
        law(x, "bars");
        due("the fault stays", x.fault(), 10);
        orders(x, "pass");
        law(x, "x");
        due("no fault", x.fault(), NONE);
    }

    void p13RowLeavesIt() {
        says("FAULT of the latest law(), orders() that read a TEXT");
        RookHouse x = one();
        law(x, "bars x");
        bytes(x, 1, 2, 3);
        x.row();
        x.row();
        x.feed(0, 0, 0, 0, 0);
        x.end(1);
        due("fault()", x.fault(), 5);
    }

    void p13FaultOfAnEmptyText() {
        says("(the end's: the TEXT's length)");
        RookHouse x = one();
        x.law();
        due("of a law", x.fault(), 0);
        text(x, "  ");
        x.orders();
        due("of orders", x.fault(), 2);
    }

    void p15NoSuchLaw() {
        says("A LAW is in FORCE (NONE: none): which was. -2.");
        RookHouse x = one();
        refuses(x, -2, "force(0) without laws", () -> x.force(0));
        law(x, "speaks 8");
        law(x, "speaks 9");
        due("force(1)", x.force(1), NONE);
        for (int number : new int[] {-2, 2, 5, 6, LOW, HIGH}) {
            refuses(x, -2, "force(" + number + ")", () -> x.force(number));
        }
        due("in FORCE still", x.asks(0, 0, 0), 9);
        due("force(0)", x.force(0), 1);
        due("force(0) again", x.force(0), 0);
        due("force(NONE)", x.force(NONE), 0);
        due("is not refused", x.status(), 0);
        due("force(NONE) again", x.force(NONE), NONE);
        due("its own voice", x.asks(0, 0, 0), 5);
    }

    void p15TheSixthLaw() {
        says("A LAW is in FORCE");
        RookHouse x = one();
        for (int i = 0; i < 6; i++) {
            law(x, "speaks " + (i + 1));
        }
        due("force(5)", x.force(5), NONE);
        due("speaks", x.asks(0, 0, 0), 6);
        refuses(x, -2, "force(6)", () -> x.force(6));
    }

    void p15LeavesWhatCanBeUndone() {
        says("It leaves what can be undone.");
        RookHouse x = one();
        law(x, "bars");
        x.put(0);
        x.force(0);
        due("behind force(0)", x.count(5), 1);
        x.force(9);
        due("behind a refused one", x.count(5), 1);
        due("undo()", x.undo(), 0);
        due("no BILL stands", x.count(2), 0);
        due("still in FORCE", x.count(12), 0);
    }

    void p15LawThatIsGone() {
        says("BACK to one all that it keeps is as it was then");
        RookHouse x = one();
        x.image(0);
        law(x, "speaks 9");
        x.force(0);
        x.back(0);
        due("in FORCE", x.count(12), NONE);
        refuses(x, -2, "force(0)", () -> x.force(0));
        due("its own voice", x.asks(0, 0, 0), 5);
    }
}
