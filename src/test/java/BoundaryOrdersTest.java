/** Boundary cases of promises 12 and 14: orders, and which of their clauses could not be. */
public final class BoundaryOrdersTest extends Boundary {
    public static void main(String[] args) throws Exception {
        new BoundaryOrdersTest().runAll(args);
    }

    private void runs(String text, int run) {
        RookHouse x = one();
        due("orders() of " + text, orders(x, text), run);
        due("status() of " + text, x.status(), 0);
        due("fault() of " + text, x.fault(), NONE);
        due("stopped() of " + text, x.stopped(), NONE);
        due("bytes behind " + text, x.count(6), 0);
        due("can be undone behind " + text, x.count(5), Math.min(run, 16));
    }

    private void fails(String text, int place) {
        RookHouse x = one();
        text(x, text);
        refuses(x, -6, "orders() of " + text, () -> x.orders());
        due("fault() of " + text, x.fault(), place);
        due("stopped() of " + text, x.stopped(), NONE);
        due("bytes behind " + text, x.count(6), 0);
    }

    private void stops(RookHouse x, String text, int clause) {
        text(x, text);
        refuses(x, -3, "orders() of " + text, () -> x.orders());
        due("stopped() of " + text, x.stopped(), clause);
        due("fault() of " + text, x.fault(), NONE);
        due("bytes behind " + text, x.count(6), 0);
    }

    void p12EmptyText() {
        says("-6 (as for law())");
        fails("", 0);
        fails(" ", 1);
        fails(" ".repeat(400), 400);
    }

    void p12TapeOfFourHundredBytes() {
        says("TEXTS are on a TAPE of at most 400 bytes.");
        runs("pass" + " ".repeat(396), 1);
        runs("put" + " ".repeat(396) + "4", 1);
        fails("put" + " ".repeat(396) + "x", 399);
    }

    void p12TwelveClauses() {
        says("12 at most (FAULT at the 13th's first TOKEN)");
        runs("pass;".repeat(11) + "pass", 12);
        fails("pass;".repeat(12) + "pass", 60);
        fails("pass;".repeat(12) + " pass", 61);
        fails("pass;".repeat(12), 60);
    }

    void p12TimesTooSmallOrTooLarge() {
        says("TIMES: a NUMBER 1 .. 20.");
        fails("pass times 0", 11);
        runs("pass times 1", 1);
        runs("pass times 20", 20);
        fails("pass times 21", 11);
        fails("pass times 1000", 11);
        fails("pass times 1001", 11);
        fails("pass times 4294967297", 11);
        fails("pass times", 10);
        fails("pass times day", 11);
        fails("pass times [1]", 11);
        fails("pass times 2 times 2", 13);
        fails("pass if 1=1 times 2", 12);
        fails("pass times 2+1", 12);
        fails("pass times if 1=1", 11);
    }

    void p12BillOfForTooLarge() {
        says("(B: a NUMBER 0 .. 4, M: 0 .. 6)");
        runs("pass if for 0=5", 1);
        runs("pass if for 4=5", 1);
        fails("pass if for 5=5", 12);
        fails("pass if for 1001=5", 12);
        fails("pass if for=5", 11);
        fails("pass if for [1]=5", 12);
        fails("pass if for day=5", 12);
        fails("put for", 7);
    }

    void p12MemberOfVoiceTooLarge() {
        says("(B: a NUMBER 0 .. 4, M: 0 .. 6)");
        runs("pass if voice 0=5", 1);
        runs("pass if voice 6=0-1", 1);
        fails("pass if voice 7=5", 14);
        fails("pass if voice 1001=5", 14);
        fails("pass if voice=5", 13);
        fails("put voice", 9);
    }

    void p12VoiceWithoutSuchAMember() {
        says("voice: -1 without such a MEMBER");
        for (int m = 1; m < 7; m++) {
            runs("pass if voice " + m + "=0-1", 1);
        }
        RookHouse x = seven();
        due("the seventh", orders(x, "pass if voice 6=1"), 1);
        due("an empty house", orders(new RookHouse(), "pass if voice 0=0-1"), 1);
    }

    void p12FiftyPartsWithoutThoseAside() {
        says("B, M, TIMES aside, NUMBERS and words count as PARTS.");
        runs("put 4" + "*1".repeat(49), 1);
        fails("put 4" + "*1".repeat(50), 104);
        runs("put 0*[for 1" + "+for 4".repeat(48) + "]", 1);
        fails("put 0*[for 1" + "+for 4".repeat(49) + "]", 301);
        runs("put 0*[voice 1" + "+voice 6".repeat(47) + "]", 1);
        runs("put 0" + "*1".repeat(49) + " times 20", 20);
        runs("pass times 20;put 0" + "*1".repeat(49), 21);
        fails("put 0" + "*1".repeat(49) + " times 20 if 1=1", 116);
        fails("put 0" + "*1".repeat(49) + "*for 5", 104);
        fails("put 0" + "*1".repeat(48) + "*for 4*0", 108);
        runs("sway 0 on 0 to 8" + "*1".repeat(47), 1);
        fails("sway 0 on 0 to 8" + "*1".repeat(48), 111);
    }

    void p12EightBrackets() {
        says("8 brackets of both kinds within one another (FAULT at the 9th) at most.");
        runs("put " + "[".repeat(8) + "1" + "]".repeat(8), 1);
        fails("put " + "[".repeat(9) + "1" + "]".repeat(9), 12);
        runs("pass if " + "(".repeat(4) + "[".repeat(4) + "1" + "]".repeat(4) + "=1" + ")".repeat(4), 1);
        fails("pass if " + "(".repeat(4) + "[".repeat(5) + "1" + "]".repeat(5) + "=1" + ")".repeat(4), 16);
        runs("sway [[[[[[[[0]]]]]]]] on [[[[[[[[0]]]]]]]] to [[[[[[[[8]]]]]]]]", 1);
    }

    void p12FirstTokenThatCantGoOn() {
        says("ORDERS: CLAUSE: (\"put\" SUM | \"go\" SUM | \"sway\" SUM \"on\" SUM \"to\" SUM | \"pass\") [\"times\" TIMES] [\"if\" TEST].");
        String[] texts = {"put", "go", "sway", "sway 0", "sway 0 on", "sway 0 on 1", "sway 0 on 1 to", "sway 0 to 1 on 2",
            "sway 0 on 1 on 2", "pass 1", "pass;", "pass;;", ";pass", "bars", "speaks 1", "wants 1", "put 1 2", "put 1001", "put bill",
            "put member", "put want", "put side", "put stands", "put mood", "pass if", "pass pass", "go 0 on 1", "pass if 1", "x",
            "pass if here", "put 0 to 1"};
        int[] places = {3, 2, 4, 6, 9, 11, 14, 7, 12, 5, 5, 5, 0, 0, 0, 0, 6, 4, 4, 4, 4, 4, 4, 4, 7, 5, 5, 9, 0, 12, 6};
        for (int i = 0; i < texts.length; i++) {
            fails(texts[i], places[i]);
        }
    }

    void p12OnceWithoutTimes() {
        says("Run CLAUSE by CLAUSE, each as often as TIMES tell (once without)");
        runs("pass", 1);
        runs("pass times 2;pass;pass times 3", 6);
        RookHouse x = one();
        orders(x, "pass times 20;".repeat(11) + "pass times 20");
        due("240 days", x.count(13), 240);
        due("16 are kept", x.count(5), 16);
    }

    void p12IfIsAskedEachTime() {
        says("each time its \"if\" is asked (not run, if it is not so or BROKEN), then its SUMS from the left.");
        runs("pass times 20 if done<3", 3);
        runs("pass times 20 if day<5;pass if day=5", 6);
        runs("pass if 1=2", 0);
        runs("pass if 1/0=1", 0);
        runs("pass if not 1/0=1", 0);
        runs("pass times 3 if 6/[done-1]<0", 1);
        runs("go 1/0 if 1=2", 0);
        runs("put 5 if 1/0=1", 0);
    }

    void p12NoneAreRun() {
        says("ORDERS, the TAPE is empty then: how many were run.");
        RookHouse x = one();
        x.go(0);
        due("orders()", orders(x, "go 0 if 1=2;put 9 if 1=2"), 0);
        due("is not refused", x.status(), 0);
        due("can be undone still", x.count(5), 1);
        due("bytes", x.count(6), 0);
    }

    void p12EachTextAnew() {
        says("ORDERS, the TAPE is empty then: how many were run.");
        RookHouse x = one();
        due("twelve that are not run", orders(x, "go 1 if 1=2;".repeat(11) + "go 1 if 1=2"), 0);
        due("twelve that are", orders(x, "pass if 1=1;".repeat(11) + "pass if 1=1"), 12);
        due("TIMES", orders(x, "pass times 20;".repeat(11) + "pass times 20"), 240);
        due("without them", orders(x, "pass;".repeat(11) + "pass"), 12);
        due("an \"if\" that is not so", orders(x, "pass if 1=2;".repeat(11) + "pass if 1=2"), 0);
        due("without it", orders(x, "pass;".repeat(11) + "pass"), 12);
        for (int i = 0; i < 12; i++) {
            due("50 PARTS", orders(x, "put 0" + "*1".repeat(49)), 1);
            due("51 PARTS", orders(x, "put 0" + "*1".repeat(50)), -6);
        }
        due("DAY", x.count(13), 276);
    }

    void p12DoneOfThisTextAlone() {
        says("done: how many were run in this TEXT");
        RookHouse x = one();
        due("at first", orders(x, "pass if done=0;pass if done=1;pass if done=9;pass if done=2"), 3);
        due("again", orders(x, "pass if done=0"), 1);
        stops(x, "pass times 2;go 9", 1);
        due("behind one that was stopped", orders(x, "pass if done=0"), 1);
    }

    void p12LatestPutOfThisTextAlone() {
        says("latest: what the latest put in it told (-1: none)");
        RookHouse x = house(5, 0, 9, 0, 9, 9, 9, 2, 0, 0, 9, 0, 9, 9);
        due("none", orders(x, "pass if latest=0-1"), 1);
        due("what it told", orders(x, "put 0;pass if latest=5;go 1;pass if latest=5;put 3;pass if latest=7"), 6);
        due("none again", orders(x, "pass if latest=0-1"), 1);
        RookHouse y = under("speaks 0", 5, 0, 9, 0, 0, 0, 0);
        stops(y, "put 0", 0);
        due("none behind one that was stopped", orders(y, "pass if latest=0-1"), 1);
    }

    void p12WordsAreAsTheyAreThen() {
        says("here: how many MEMBERS are, standing: how many BILLS STAND, for: VOICES FOR a BILL");
        RookHouse x = house(5, 0, 9, 9, 9, 9, 9, 2, 0, 0, 0, 0, 0, 9);
        due("here", orders(x, "go 0 if here=2;go 1 if here=1;pass if here=0;pass if here=2"), 4);
        due("standing", orders(x, "put standing times 5 if standing<5;pass if standing=5"), 6);
        due("for", orders(x, "pass if for 4=7 and for 0=5;go 1;pass if for 4=5;go 0;pass if for 4=2"), 5);
        RookHouse y = under("speaks day", 5, 0, 9, 9, 9, 9, 9);
        due("for, by the law", orders(y, "pass if for 0=0;pass if for 0=1;pass if for 0=2"), 3);
        due("nobody", orders(new RookHouse(), "pass if here=0 and standing=0 and for 0=0"), 1);
    }

    private RookHouse two() {
        return house(5, 0, 9, 9, 0, 0, 0, 3, 0, 0, 9, 0, 0, 0);
    }

    void p12PutCantBe() {
        says("(a BROKEN SUM, as put(), go(), sway(), pass() are REFUSED) ends it");
        stops(two(), "put 2", 0);
        stops(two(), "put 5", 0);
        stops(two(), "put 0-1", 0);
        stops(two(), "put 1/0", 0);
        stops(two(), "pass;put 1000*1000*1000+1", 1);
        stops(two(), "put 1000*1000*1000", 0);
        due("put 4 can be", orders(one(), "put 4"), 1);
    }

    void p12GoCantBe() {
        says("(a BROKEN SUM, as put(), go(), sway(), pass() are REFUSED) ends it");
        stops(two(), "go 2", 0);
        stops(two(), "go 0-1", 0);
        stops(two(), "go 7", 0);
        stops(two(), "go 1%0", 0);
        stops(new RookHouse(), "go 0", 0);
        due("go 1 can be", orders(two(), "go 1"), 1);
        due("go 6 can be", orders(seven(), "go 6"), 1);
    }

    void p12SwayCantBe() {
        says("(a BROKEN SUM, as put(), go(), sway(), pass() are REFUSED) ends it");
        for (String one : new String[] {"sway 0 on 5 to 1", "sway 0 on 0-1 to 1", "sway 0 on 0 to 10", "sway 0 on 0 to 0-1",
            "sway 2 on 0 to 1", "sway 0-1 on 0 to 1", "sway 0 on 0 to 9", "sway 1/0 on 0 to 1", "sway 0 on 1/0 to 1", "sway 0 on 0 to 1/0"}) {
            stops(two(), one, 0);
        }
        stops(two(), "sway 0 on 0 to 8 times 2", 0);
        RookHouse x = two();
        due("sway 1 on 4 to 9 can be", orders(x, "sway 1 on 4 to 9;sway 0 on 0 to 0"), 2);
        due("its WANT", x.of(1, 7) * 10 + x.of(0, 3), 90);
    }

    void p12PassCantBe() {
        says("(a BROKEN SUM, as put(), go(), sway(), pass() are REFUSED) ends it");
        RookHouse x = two();
        x.terms(0, 998);
        stops(x, "pass times 2", 0);
        stops(x, "pass;pass", 1);
        due("DAY", x.count(13), 998);
        due("pass can be", orders(x, "pass"), 1);
        due("DAY", x.count(13), 999);
        stops(x, "pass", 0);
    }

    void p12AllIsAsItWas() {
        says("all is as it was ahead of it");
        RookHouse x = two();
        x.terms(0, 7);
        x.sway(0, 3, 7);
        x.go(1);
        stops(x, "go 1;sway 0 on 0 to 3;pass times 3;sway 0 on 0 to 9;put 1;go 0;go 2", 6);
        due("DAY", x.count(13), 7);
        due("BILLS that STAND", x.count(2), 0);
        due("WANT", x.of(0, 3), 9);
        due("who is here", x.of(0, 2) * 10 + x.of(1, 2), 10);
        due("undo()", x.undo(), 1);
        due("here again", x.of(1, 2), 1);
        due("undo()", x.undo(), 2);
        due("WANT", x.of(0, 6), 0);
        due("no more", x.undo(), -3);
    }

    void p12AllThatCanBeUndoneIsAsItWas() {
        says("all is as it was ahead of it");
        RookHouse x = two();
        for (int i = 0; i < 16; i++) {
            x.sway(0, 4, 1 + i % 9);
        }
        stops(x, "go 1 times 20;go 7", 1);
        for (int i = 15; i >= 0; i--) {
            due("WANT", x.of(0, 7), 1 + i % 9);
            due("undo()", x.undo(), 2);
        }
        due("WANT", x.of(0, 7), 0);
        due("no more", x.undo(), -3);
    }

    void p12RefusedOnce() {
        says("-3 one can't be; -6 (as for law()).");
        RookHouse x = two();
        orders(x, "pass;put 9");
        due("by -1", x.count(7), 0);
        due("by -3", x.count(9), 1);
        orders(x, "go 9");
        due("by -2", x.count(8), 0);
        due("by -3", x.count(9), 2);
        due("status()", x.status(), -3);
    }

    void p12FaultRunsNothing() {
        says("-6 (as for law())");
        RookHouse x = two();
        text(x, "pass;go 0;x");
        refuses(x, -6, "orders()", () -> x.orders());
        due("DAY", x.count(13), 0);
        due("can be undone", x.count(5), 0);
    }

    void p14NoneAtFirst() {
        says("Which CLAUSE of the latest orders() could not be. NONE.");
        RookHouse x = one();
        due("ahead of any", x.stopped(), NONE);
        orders(x, "pass;go 1");
        due("the second", x.stopped(), 1);
        orders(x, "pass");
        due("behind orders that were run", x.stopped(), NONE);
        orders(x, "go 1");
        due("the first", x.stopped(), 0);
        orders(x, "x");
        due("behind a text that can't be", x.stopped(), NONE);
        orders(x, "go 1");
        x.orders();
        due("behind an empty text", x.stopped(), NONE);
    }

    void p14TheTwelfth() {
        says("Which CLAUSE of the latest orders() could not be.");
        RookHouse x = one();
        stops(x, "pass;".repeat(11) + "go 1", 11);
        stops(x, "pass if 1=2;".repeat(11) + "go 1", 11);
        stops(x, "pass times 20;go 0 times 20;go 1 times 20", 2);
    }

    void p14OthersLeaveIt() {
        says("of the latest orders()");
        RookHouse x = one();
        orders(x, "pass;pass;go 1");
        law(x, "bars");
        law(x, "x");
        x.go(0);
        x.go(9);
        x.pass();
        x.undo();
        x.row();
        due("stopped()", x.stopped(), 2);
    }
}
