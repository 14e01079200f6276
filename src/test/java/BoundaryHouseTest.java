/** Boundary cases of promises 1 to 10: members, what is asked of them and of bills, terms, the tape, rows. */
public final class BoundaryHouseTest extends Boundary {
    public static void main(String[] args) throws Exception {
        new BoundaryHouseTest().runAll(args);
    }

    void p01EmptyHouse() {
        says("An empty house.");
        RookHouse x = new RookHouse();
        for (int w = 0; w < 12; w++) {
            due("count(" + w + ")", x.count(w), 0);
        }
        due("canBe()", x.canBe(), 0);
        due("rings()", x.rings(), 0);
        due("forget()", x.forget(), 0);
        for (int b = 0; b < 5; b++) {
            int[] empty = {0, 0, 0, 1, 0, 0};
            for (int w = 0; w < 6; w++) {
                due("bill(" + b + ", " + w + ")", x.bill(b, w), empty[w]);
            }
        }
        none(x, "best()", () -> x.best());
        none(x, "of(0, 0)", () -> x.of(0, 0));
        none(x, "drawn(0, 0)", () -> x.drawn(0, 0));
    }

    void p01TermsAtFirst() {
        says("TERMS: 0 DAY 0 .. 999 (0 at first), 1 DOZES 0 .. 10 (1), 2 MOOD 0 .. 9 (0), 3 NEED 0 .. 99 (0).");
        RookHouse x = new RookHouse();
        due("DAY", x.count(13), 0);
        due("DOZES", x.count(14), 1);
        due("MOOD", x.count(15), 0);
        due("NEED", x.count(16), 0);
    }

    void p01NoBillStandsAtFirst() {
        says("A BILL STANDS or not (at first).");
        due("count(2)", new RookHouse().count(2), 0);
    }

    void p01NoLawInForceAtFirst() {
        says("one is in FORCE (NONE at first: no CLAUSE)");
        RookHouse x = new RookHouse();
        due("count(12)", x.count(12), NONE);
        x.member(4, 0);
        law(x, "speaks 9;wants 9;bars");
        due("speaks with its voice", x.asks(0, 0, 0), 4);
        due("values by its want", x.asks(0, 0, 1), 0);
        due("is not barred", x.asks(0, 0, 2), 0);
    }

    void p01ObjectsAreApart() {
        says("An empty house.");
        one();
        due("another house is empty", new RookHouse().count(0), 0);
    }

    void p01FiveHundredTwelveCalls() {
        says("An object is used for at most 512 calls after it has been made");
        RookHouse x = new RookHouse();
        x.member(1, 0);
        for (int i = 0; i < 510; i++) {
            due("go(0), call " + (i + 2), x.go(0), i % 2);
        }
        due("call 512", x.count(5), 16);
    }

    void p02VoiceTooSmallOrTooLarge() {
        says("VOICE 1 .. 9");
        RookHouse x = new RookHouse();
        for (int voice : new int[] {0, -1, 10, LOW, HIGH}) {
            refuses(x, -1, "member(" + voice + ", 0)", () -> x.member(voice, 0));
        }
        due("member(1, 0)", x.member(1, 0), 0);
        due("member(9, 0)", x.member(9, 0), 1);
        due("its voice", x.of(0, 0), 1);
        due("its voice", x.of(1, 0), 9);
    }

    void p02SideTooSmallOrTooLarge() {
        says("a SIDE 0 .. 3");
        RookHouse x = new RookHouse();
        for (int side : new int[] {-1, 4, LOW, HIGH}) {
            refuses(x, -1, "member(1, " + side + ")", () -> x.member(1, side));
        }
        due("member(1, 0)", x.member(1, 0), 0);
        due("member(1, 3)", x.member(1, 3), 1);
        due("its side", x.of(0, 1), 0);
        due("its side", x.of(1, 1), 3);
    }

    void p02HouseIsFull() {
        says("MEMBERS 0 .. 6 (7 at most)");
        RookHouse x = new RookHouse();
        for (int m = 0; m < 7; m++) {
            due("member", x.member(9 - m, m % 4), m);
        }
        refuses(x, -5, "an eighth", () -> x.member(1, 0));
        due("MEMBERS", x.count(0), 7);
        due("the seventh is as it was", x.of(6, 0), 3);
    }

    void p02NumberAheadOfRoom() {
        says("-1; -5.");
        RookHouse x = seven();
        refuses(x, -1, "member(0, 0) in a full house", () -> x.member(0, 0));
        refuses(x, -1, "member(1, 4) in a full house", () -> x.member(1, 4));
    }

    void p02AllWantsAreZero() {
        says("A MEMBER, all WANTS 0: its number.");
        RookHouse x = new RookHouse();
        x.image(0);
        bytes(x, 9, 3, 9, 9, 9, 9, 9);
        x.row();
        x.go(0);
        x.back(0);
        due("in the place of one that is gone", x.member(1, 0), 0);
        for (int b = 0; b < 5; b++) {
            due("WANT of " + b, x.of(0, 3 + b), 0);
        }
        due("is here", x.of(0, 2), 1);
    }

    void p02HereAtFirst() {
        says("HERE (at first) or AWAY");
        RookHouse x = new RookHouse();
        x.member(1, 0);
        x.go(0);
        x.member(1, 0);
        due("the first one is away", x.of(0, 2), 0);
        due("the new one is here", x.of(1, 2), 1);
    }

    void p03NoSuchMember() {
        says("Of a MEMBER VOICE (what 0), SIDE (1), whether HERE (2: 1, 0), its WANT of BILL b (3 + b). NONE.");
        RookHouse x = one();
        for (int m : new int[] {-1, 1, 6, 7, LOW, HIGH}) {
            for (int w : new int[] {0, 2, 3}) {
                none(x, "of(" + m + ", " + w + ")", () -> x.of(m, w));
            }
        }
        RookHouse full = seven();
        due("the last", full.of(6, 0), 1);
        none(full, "of(7, 0)", () -> full.of(7, 0));
    }

    void p03NoSuchWhat() {
        says("its WANT of BILL b (3 + b). NONE.");
        RookHouse x = house(4, 3, 1, 2, 3, 4, 9);
        int[] row = {4, 3, 1, 1, 2, 3, 4, 9};
        for (int w = 0; w < 8; w++) {
            due("of(0, " + w + ")", x.of(0, w), row[w]);
        }
        for (int w : new int[] {-1, 8, LOW, LOW + 3, HIGH}) {
            none(x, "of(0, " + w + ")", () -> x.of(0, w));
        }
    }

    void p04NoSuchMemberBillWhat() {
        says("whether ON it (3: 1, 0), FOR it (4: 1, 0). NONE.");
        RookHouse x = one();
        for (int wrong : new int[] {-1, LOW, HIGH}) {
            none(x, "asks(" + wrong + ", 0, 0)", () -> x.asks(wrong, 0, 0));
            none(x, "asks(0, " + wrong + ", 0)", () -> x.asks(0, wrong, 0));
            none(x, "asks(0, 0, " + wrong + ")", () -> x.asks(0, 0, wrong));
        }
        none(x, "asks(1, 0, 0)", () -> x.asks(1, 0, 0));
        none(x, "asks(0, 5, 0)", () -> x.asks(0, 5, 0));
        none(x, "asks(0, 0, 5)", () -> x.asks(0, 0, 5));
        int[] last = {5, 9, 0, 1, 1};
        for (int w = 0; w < 5; w++) {
            due("asks(0, 4, " + w + ")", x.asks(0, 4, w), last[w]);
        }
    }

    void p04SpeaksWithTheNearest() {
        says("One SPEAKS on a BILL with 0 .. 9 VOICES as the last \"speaks\" that HOLDS tells (else the nearest), with its VOICE without");
        int[] told = {-1000, -1, 0, 1, 8, 9, 10, 1000};
        int[] near = {0, 0, 0, 1, 8, 9, 9, 9};
        for (int i = 0; i < told.length; i++) {
            RookHouse x = under("speaks " + (told[i] < 0 ? "0-" + -told[i] : "" + told[i]), 5, 0, 0, 0, 0, 0, 0);
            due("told " + told[i], x.asks(0, 0, 0), near[i]);
        }
        due("without", under("wants 1", 5, 0, 0, 0, 0, 0, 0).asks(0, 0, 0), 5);
        due("none that holds", under("speaks 1 if 1=2", 5, 0, 0, 0, 0, 0, 0).asks(0, 0, 0), 5);
        due("the last", under("speaks 1;speaks 2;wants 3", 5, 0, 0, 0, 0, 0, 0).asks(0, 0, 0), 2);
        due("the last that holds", under("speaks 1;speaks 2 if 1=2", 5, 0, 0, 0, 0, 0, 0).asks(0, 0, 0), 1);
        due("is asked of one away, too", away("speaks 8").asks(0, 0, 0), 8);
    }

    private RookHouse away(String law) {
        RookHouse x = under(law, 5, 0, 5, 0, 0, 0, 0);
        x.go(0);
        return x;
    }

    void p04ValuesByTheNearest() {
        says("it VALUES it by 0 .. 9, by its WANT without");
        int[] told = {-1000, -1, 0, 1, 8, 9, 10, 1000};
        int[] near = {0, 0, 0, 1, 8, 9, 9, 9};
        for (int i = 0; i < told.length; i++) {
            RookHouse x = under("wants " + (told[i] < 0 ? "0-" + -told[i] : "" + told[i]), 5, 0, 4, 0, 0, 0, 0);
            due("told " + told[i], x.asks(0, 0, 1), near[i]);
        }
        due("without", under("speaks 1", 5, 0, 4, 0, 0, 0, 0).asks(0, 0, 1), 4);
        due("none that holds", under("wants 1 if 1=2", 5, 0, 4, 0, 0, 0, 0).asks(0, 0, 1), 4);
        due("the last that holds", under("wants 1;wants 2;wants 3 if 1=2", 5, 0, 4, 0, 0, 0, 0).asks(0, 0, 1), 2);
    }

    void p04BarredIfBarsHolds() {
        says("it is BARRED from it, if \"bars\" HOLDS");
        RookHouse x = under("bars if bill=0;bars if bill=4;bars if 1/0=1", 5, 0, 9, 9, 9, 9, 9);
        int[] barred = {1, 0, 0, 0, 1};
        for (int b = 0; b < 5; b++) {
            due("barred from " + b, x.asks(0, b, 2), barred[b]);
            due("on " + b, x.asks(0, b, 3), 1 - barred[b]);
            due("for " + b, x.asks(0, b, 4), 1 - barred[b]);
        }
        due("\"bars\" without an \"if\"", under("bars", 5, 0, 9, 9, 9, 9, 9).asks(0, 2, 2), 1);
    }

    void p04BarredNoMore() {
        says("it is BARRED from it, if \"bars\" HOLDS");
        RookHouse x = under("bars if day=1", 5, 0, 9, 9, 9, 9, 9);
        due("at DAY 0", x.asks(0, 0, 2), 0);
        x.pass();
        due("at DAY 1", x.asks(0, 0, 2), 1);
        due("not ON it", x.bill(0, 2), 0);
        x.pass();
        due("at DAY 2", x.asks(0, 0, 2), 0);
        due("ON it", x.bill(0, 2), 5);
        x.undo();
        due("at DAY 1 again", x.asks(0, 0, 2), 1);
        x.force(NONE);
        due("without a LAW", x.asks(0, 0, 2), 0);
    }

    void p04BrokenDoesNotHold() {
        says("A CLAUSE HOLDS, if its \"if\" (if it has one) is so, and neither that nor its SUM is BROKEN.");
        int[] row = {5, 0, 4, 0, 0, 0, 0};
        due("a broken sum", under("speaks 1;speaks 1/0", row).asks(0, 0, 0), 1);
        due("a broken sum, its \"if\" is so", under("wants 1;wants 1/0 if 1=1", row).asks(0, 0, 1), 1);
        due("a broken \"if\"", under("speaks 1;speaks 2 if 1/0=1", row).asks(0, 0, 0), 1);
        due("a broken \"if\" of bars", under("bars if 1/0=1", row).asks(0, 0, 2), 0);
        due("not a broken one", under("bars if not 1/0=1", row).asks(0, 0, 2), 0);
    }

    void p04OnIsHereAndNotBarred() {
        says("ON a BILL: MEMBERS who are HERE and not BARRED from it");
        due("here", one().asks(0, 0, 3), 1);
        due("here, barred", under("bars", 5, 0, 9, 9, 9, 9, 9).asks(0, 0, 3), 0);
        due("away", away("speaks 1").asks(0, 0, 3), 0);
        due("away, not for", away("speaks 1").asks(0, 0, 4), 0);
        due("away, still barred", away("bars").asks(0, 0, 2), 1);
    }

    void p04ForByFiveAtLeast() {
        says("FOR it: those of them who VALUE it by 5 at least");
        RookHouse x = house(5, 0, 0, 4, 5, 6, 9);
        int[] favour = {0, 0, 1, 1, 1};
        for (int b = 0; b < 5; b++) {
            due("asks(0, " + b + ", 4)", x.asks(0, b, 4), favour[b]);
        }
    }

    void p05NoSuchBillWhat() {
        says("whether it CARRIES (4: 1, 0), POINTS (5). NONE.");
        RookHouse x = one();
        for (int b : new int[] {-1, 5, LOW, HIGH}) {
            none(x, "bill(" + b + ", 0)", () -> x.bill(b, 0));
            none(x, "bill(" + b + ", 5)", () -> x.bill(b, 5));
        }
        for (int w : new int[] {-1, 6, LOW, HIGH}) {
            none(x, "bill(0, " + w + ")", () -> x.bill(0, w));
        }
        due("bill(4, 1)", x.bill(4, 1), 5);
    }

    void p05NeededByHalfCut() {
        says("NEEDED: NEED, if it is more than 0, else one more than half (cut) of the VOICES of all ON it.");
        int[] needed = {1, 1, 2, 2, 3, 3, 4, 4, 5, 5};
        due("nobody is on it", new RookHouse().bill(0, 3), 1);
        for (int v = 1; v < 10; v++) {
            due("of " + v, house(v, 0, 0, 0, 0, 0, 0).bill(0, 3), needed[v]);
        }
        RookHouse x = house(9, 0, 0, 0, 0, 0, 0);
        x.terms(3, 1);
        due("NEED 1", x.bill(0, 3), 1);
        x.terms(3, 99);
        due("NEED 99", x.bill(0, 3), 99);
        x.terms(3, 0);
        due("NEED 0", x.bill(0, 3), 5);
        x.go(0);
        due("all are away", x.bill(0, 3), 1);
        due("all are barred", under("bars", 9, 0, 0, 0, 0, 0, 0).bill(0, 3), 1);
        due("all speak with 0", under("speaks 0", 9, 0, 0, 0, 0, 0, 0).bill(0, 3), 1);
    }

    void p05CarriesByJustAsManyAsNeeded() {
        says("A BILL CARRIES, if VOICES FOR it are as many as NEEDED at least.");
        RookHouse half = house(3, 0, 9, 0, 0, 0, 0, 3, 0, 0, 0, 0, 0, 0);
        due("just half", half.bill(0, 4), 0);
        half.terms(3, 3);
        due("just as many", half.bill(0, 4), 1);
        half.terms(3, 4);
        due("one fewer", half.bill(0, 4), 0);
        half.terms(3, 2);
        due("one more", half.bill(0, 4), 1);
        due("one more than half", house(4, 0, 9, 0, 0, 0, 0, 3, 0, 0, 0, 0, 0, 0).bill(0, 4), 1);
        due("nobody at all", new RookHouse().bill(0, 4), 0);
    }

    void p05VoicesOfTheFullHouse() {
        says("VOICES of some: with how many they SPEAK on it together.");
        RookHouse x = new RookHouse();
        for (int m = 0; m < 7; m++) {
            bytes(x, 9, 0, 9, 0, 0, 0, 4);
        }
        x.row();
        due("FOR 0", x.bill(0, 1), 63);
        due("ON 0", x.bill(0, 2), 63);
        due("NEEDED", x.bill(0, 3), 32);
        due("FOR 4", x.bill(4, 1), 0);
        due("POINTS of 0", x.bill(0, 5), 252);
        due("POINTS of 4", x.bill(4, 5), 189);
        due("POINTS of 1", x.bill(1, 5), 0);
        RookHouse none = house(3, 0, 9, 0, 0, 0, 0);
        none.go(0);
        due("nobody is here", none.bill(0, 1) + none.bill(0, 2) + none.bill(0, 5), 0);
    }

    void p05PointsByLessAlone() {
        says("POINTS of a BILL: of all MEMBERS ON it, how many BILLS it VALUES less than this one, times with how many VOICES it SPEAKS on it, together.");
        due("all alike", house(3, 0, 7, 7, 7, 7, 7).bill(0, 5), 0);
        RookHouse x = house(3, 0, 0, 1, 1, 2, 9);
        int[] points = {0, 3, 3, 9, 12};
        for (int b = 0; b < 5; b++) {
            due("POINTS of " + b, x.bill(b, 5), points[b]);
        }
        RookHouse y = under("bars if bill=1;speaks bill", 3, 0, 5, 1, 1, 0, 5);
        int[] barred = {0, 0, 2, 0, 12};
        for (int b = 0; b < 5; b++) {
            due("POINTS of " + b + " by a law", y.bill(b, 5), barred[b]);
        }
    }

    private void term(int what, int most, int first) {
        RookHouse x = new RookHouse();
        for (int value : new int[] {-1, most + 1, LOW, HIGH}) {
            refuses(x, -1, "terms(" + what + ", " + value + ")", () -> x.terms(what, value));
        }
        due("the most", x.terms(what, most), first);
        due("is told", x.count(13 + what), most);
        due("the least", x.terms(what, 0), most);
        due("is told", x.count(13 + what), 0);
        due("again", x.terms(what, 1), 0);
        for (int t = 0; t < 4; t++) {
            due("TERM " + t + " behind that of " + what, x.count(13 + t), t == what || t == 1 ? 1 : 0);
        }
    }

    void p06DayTooSmallOrTooLarge() {
        says("0 DAY 0 .. 999");
        term(0, 999, 0);
    }

    void p06DozesTooSmallOrTooLarge() {
        says("1 DOZES 0 .. 10");
        term(1, 10, 1);
    }

    void p06MoodTooSmallOrTooLarge() {
        says("2 MOOD 0 .. 9");
        term(2, 9, 0);
    }

    void p06NeedTooSmallOrTooLarge() {
        says("3 NEED 0 .. 99");
        term(3, 99, 0);
    }

    void p06NoSuchTerm() {
        says("A TERM: what it was. -1.");
        RookHouse x = new RookHouse();
        for (int what : new int[] {-1, 4, LOW, HIGH}) {
            refuses(x, -1, "terms(" + what + ", 0)", () -> x.terms(what, 0));
        }
    }

    void p07HighestByteFirst() {
        says("Twenty bytes come behind the TAPE, four of each number, the highest first: how many it has.");
        RookHouse x = new RookHouse();
        due("feed", x.feed(0x05020103, 0x04050609, 0x03000000, 0x0000ff00, 0x80000000), 20);
        due("row", x.row(), 2);
        int[] first = {5, 2, 1, 1, 3, 4, 5, 6};
        int[] second = {9, 3, 1, 0, 0, 0, 0, 0};
        for (int w = 0; w < 8; w++) {
            due("of(0, " + w + ")", x.of(0, w), first[w]);
            due("of(1, " + w + ")", x.of(1, w), second[w]);
        }
        due("bytes of 255, 128 can't be wants", x.feathers(), 1);
        RookHouse y = new RookHouse();
        y.feed(-1, -1, -1, -1, -1);
        y.end(7);
        due("bytes of 255 are no -1", y.row(), 0);
        due("behind what it has", y.feed(0, 0, 0, 0, 0) + y.feed(0, 0, 0, 0, 0), 60);
    }

    void p07TapeIsFull() {
        says("NONE, if there would be more than 400.");
        RookHouse x = new RookHouse();
        for (int i = 1; i <= 20; i++) {
            due("feed", x.feed(0, 0, 0, 0, 0), 20 * i);
        }
        none(x, "feed behind 400", () -> x.feed(1, 1, 1, 1, 1));
        due("bytes", x.count(6), 400);
        x.end(381);
        none(x, "feed behind 381", () -> x.feed(1, 1, 1, 1, 1));
        due("bytes", x.count(6), 381);
        x.end(380);
        due("feed behind 380", x.feed(0x01000000, 0, 0, 0, 0), 400);
        due("row", x.row(), 0);
        due("feathers of 400 bytes", x.feathers(), 58);
    }

    void p07RefusedFeedAddsNothing() {
        says("NONE, if there would be more than 400.");
        RookHouse x = new RookHouse();
        text(x, " ".repeat(396) + "bars");
        due("bytes", x.count(6), 400);
        none(x, "feed behind 400", () -> x.feed(-1, -1, -1, -1, -1));
        due("the text is as it was", x.law(), 0);
    }

    void p08EndTooSmallOrTooLarge() {
        says("NONE, if it has not so many, or n is below 0.");
        RookHouse x = new RookHouse();
        x.feed(0, 0, 0, 0, 0);
        for (int n : new int[] {21, 400, 401, -1, LOW, HIGH}) {
            none(x, "end(" + n + ")", () -> x.end(n));
            due("bytes", x.count(6), 20);
        }
        due("end(20)", x.end(20), 20);
        due("end(19)", x.end(19), 19);
        none(x, "end(20) behind end(19)", () -> x.end(20));
        due("end(0)", x.end(0), 0);
        none(x, "end(1) of an empty one", () -> x.end(1));
        due("end(0) of an empty one", x.end(0), 0);
    }

    void p08FirstBytesAlone() {
        says("The TAPE has its first n bytes alone: n.");
        RookHouse x = new RookHouse();
        text(x, "bars if 1=1");
        due("end(4)", x.end(4), 4);
        text(x, ";bars");
        due("law()", x.law(), 0);
        due("bytes", x.count(6), 0);
    }

    void p09TapeIsEmpty() {
        says("-6 the TAPE is empty.");
        RookHouse x = new RookHouse();
        refuses(x, -6, "row()", () -> x.row());
        x.feed(0, 0, 0, 0, 0);
        x.end(0);
        refuses(x, -6, "row() behind end(0)", () -> x.row());
        bytes(x, 1, 0, 0, 0, 0, 0, 0);
        due("row()", x.row(), 1);
        refuses(x, -6, "row() behind row()", () -> x.row());
    }

    void p09EmptyBehindIt() {
        says("A ROW, the TAPE is empty then: how many MEMBERS came.");
        RookHouse x = new RookHouse();
        bytes(x, 1, 0, 0, 0, 0, 0, 0, 1, 0);
        due("row()", x.row(), 1);
        due("bytes", x.count(6), 0);
        bytes(x, 0);
        due("nobody came", x.row(), 0);
        due("is not refused", x.status(), 0);
        due("bytes", x.count(6), 0);
    }

    void p09OneThatCantBeIsAFeather() {
        says("one that can't be");
        int[] good = {1, 0, 0, 0, 0, 0, 0};
        int[] most = {9, 3, 9, 9, 9, 9, 9};
        due("the least", house(good).count(0), 1);
        due("the most", house(most).count(0), 1);
        for (int i = 0; i < 7; i++) {
            for (int value : new int[] {most[i] + 1, 128, 255}) {
                int[] bad = good.clone();
                bad[i] = value;
                RookHouse x = house(bad);
                due("byte " + i + " of " + value, x.count(0) * 10 + x.feathers(), 1);
            }
        }
        RookHouse y = house(0, 0, 0, 0, 0, 0, 0);
        due("VOICE 0", y.count(0) * 10 + y.feathers(), 1);
    }

    void p09OneWithinWhichTheTapeEndsIsAFeather() {
        says("one within which the TAPE ends");
        for (int n = 1; n < 15; n++) {
            RookHouse x = new RookHouse();
            int[] ones = new int[n];
            java.util.Arrays.fill(ones, 1);
            bytes(x, ones);
            due("row() of " + n, x.row(), n / 7);
            due("feathers() of " + n, x.feathers(), n % 7 == 0 ? 0 : 1);
        }
        RookHouse y = new RookHouse();
        y.feed(0x01010101, 0x01010101, 0x01010101, 0x01010101, 0x01010101);
        y.end(13);
        due("what stood behind its end is not read", y.row() * 10 + y.feathers(), 11);
    }

    void p09OneWithoutRoomIsAFeather() {
        says("one for which there is no room is a FEATHER: nothing.");
        RookHouse x = new RookHouse();
        for (int i = 0; i < 8; i++) {
            bytes(x, i + 1, 0, 0, 0, 0, 0, 0);
        }
        due("row() of eight", x.row(), 7);
        due("status()", x.status(), 0);
        due("feathers()", x.feathers(), 1);
        due("the seventh", x.of(6, 0), 7);
        bytes(x, 9, 0, 0, 0, 0, 0, 0);
        due("row() in a full house", x.row(), 0);
        due("status()", x.status(), 0);
        due("feathers()", x.feathers(), 1);
        due("MEMBERS", x.count(0), 7);
    }

    void p09OnesBehindAFeatherCome() {
        says("A ROW: the TAPE's bytes by sevens: VOICE, a SIDE, WANTS of BILLS 0 .. 4: a MEMBER");
        RookHouse x = new RookHouse();
        bytes(x, 0, 0, 0, 0, 0, 0, 0, 3, 2, 5, 6, 7, 8, 9, 1, 4, 0, 0, 0, 0, 0, 4, 1, 0, 0, 0, 0, 9);
        due("row()", x.row(), 2);
        int[] first = {3, 2, 1, 5, 6, 7, 8, 9};
        for (int w = 0; w < 8; w++) {
            due("of(0, " + w + ")", x.of(0, w), first[w]);
        }
        due("of(1, 7)", x.of(1, 7), 9);
    }

    void p10NoneAheadOfAny() {
        says("(0 ahead of any)");
        RookHouse x = new RookHouse();
        due("feathers()", x.feathers(), 0);
        x.row();
        due("behind a refused one", x.feathers(), 0);
    }

    void p10RefusedRowLeavesIt() {
        says("How many FEATHERS the latest row() had that was not REFUSED");
        RookHouse x = new RookHouse();
        bytes(x, 0, 0, 0, 0, 0, 0, 0, 1);
        due("row()", x.row(), 0);
        due("feathers()", x.feathers(), 2);
        refuses(x, -6, "row()", () -> x.row());
        due("behind a refused one", x.feathers(), 2);
        bytes(x, 1, 0, 0, 0, 0, 0, 0);
        due("row()", x.row(), 1);
        due("the latest had none", x.feathers(), 0);
    }
}
