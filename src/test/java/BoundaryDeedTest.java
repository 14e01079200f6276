/** Boundary cases of promises 16 to 20: bills put, members who go, wants swayed, days, and what is undone of it. */
public final class BoundaryDeedTest extends Boundary {
    public static void main(String[] args) throws Exception {
        new BoundaryDeedTest().runAll(args);
    }

    void p16NoSuchBill() {
        says("To PUT: VOICES FOR it (ahead of it). -1; -3 it does not CARRY.");
        RookHouse x = one();
        for (int b : new int[] {-1, 5, LOW, HIGH}) {
            refuses(x, -1, "put(" + b + ")", () -> x.put(b));
        }
        due("put(0)", x.put(0), 5);
        due("put(4)", x.put(4), 5);
        due("BILLS that STAND", x.count(2), 17);
        RookHouse empty = new RookHouse();
        refuses(empty, -1, "put(5) in an empty house", () -> empty.put(5));
    }

    void p16DoesNotCarry() {
        says("-3 it does not CARRY.");
        RookHouse empty = new RookHouse();
        refuses(empty, -3, "put(0) in an empty house", () -> empty.put(0));
        RookHouse x = house(3, 0, 9, 4, 5, 0, 0, 3, 0, 0, 9, 5, 0, 0);
        refuses(x, -3, "put(0) by half of the voices", () -> x.put(0));
        refuses(x, -3, "put(3) that nobody wants", () -> x.put(3));
        due("put(2)", x.put(2), 6);
        x.terms(3, 6);
        due("put(2) by just as many as NEEDED", x.put(2), 6);
        x.terms(3, 7);
        refuses(x, -3, "put(2) by one fewer than NEEDED", () -> x.put(2));
        RookHouse silent = under("speaks 0", 3, 0, 9, 9, 9, 9, 9);
        refuses(silent, -3, "put(0) without voices", () -> silent.put(0));
    }

    void p16StandsElseNoMore() {
        says("To PUT a BILL that CARRIES: it STANDS, if it did not, else no more.");
        RookHouse x = one();
        for (int b = 0; b < 5; b++) {
            due("put(" + b + ")", x.put(b), 5);
            due("STANDS", x.bill(b, 0), 1);
        }
        due("all STAND", x.count(2), 31);
        for (int b = 0; b < 5; b++) {
            due("put(" + b + ")", x.put(b), 5);
            due("no more", x.bill(b, 0), 0);
        }
        due("none STAND", x.count(2), 0);
    }

    void p16VoicesAheadOfIt() {
        says("To PUT: VOICES FOR it (ahead of it).");
        RookHouse x = under("speaks 9-stands*4", 1, 0, 9, 9, 9, 9, 9);
        due("put(1)", x.put(1), 9);
        due("behind it", x.bill(1, 1), 5);
        due("put(1)", x.put(1), 5);
        due("behind it", x.bill(1, 1), 9);
    }

    void p17NoSuchMember() {
        says("To GO: whether it is HERE then (1, 0). -2.");
        RookHouse empty = new RookHouse();
        refuses(empty, -2, "go(0) in an empty house", () -> empty.go(0));
        RookHouse x = one();
        for (int m : new int[] {-1, 1, 6, 7, LOW, HIGH}) {
            refuses(x, -2, "go(" + m + ")", () -> x.go(m));
        }
        RookHouse full = seven();
        due("go(6)", full.go(6), 0);
        refuses(full, -2, "go(7)", () -> full.go(7));
        due("six are HERE", full.count(1), 6);
    }

    void p17AwayElseHere() {
        says("To GO: one is AWAY, if it was HERE, else HERE.");
        RookHouse x = seven();
        for (int m = 0; m < 7; m++) {
            due("go(" + m + ")", x.go(m), 0);
        }
        due("nobody is HERE", x.count(1), 0);
        due("MEMBERS", x.count(0), 7);
        for (int m = 0; m < 7; m++) {
            due("go(" + m + ")", x.go(m), 1);
        }
        due("all are HERE", x.count(1), 7);
    }

    void p18WantTooSmallOrTooLarge() {
        says("a WANT 0 .. 9 of each of BILLS 0 .. 4");
        RookHouse x = house(1, 0, 5, 5, 5, 5, 5);
        for (int want : new int[] {-1, 10, LOW, HIGH}) {
            refuses(x, -1, "sway(0, 0, " + want + ")", () -> x.sway(0, 0, want));
        }
        due("sway(0, 0, 0)", x.sway(0, 0, 0), 5);
        due("its WANT", x.of(0, 3), 0);
        due("sway(0, 0, 9)", x.sway(0, 0, 9), 0);
        due("its WANT", x.of(0, 3), 9);
    }

    void p18NoSuchBill() {
        says("-1 (the BILL, the WANT); -2; -3 it is so.");
        RookHouse x = house(1, 0, 5, 5, 5, 5, 5, 1, 0, 5, 5, 5, 5, 5);
        for (int b : new int[] {-1, 5, LOW, HIGH}) {
            refuses(x, -1, "sway(0, " + b + ", 1)", () -> x.sway(0, b, 1));
        }
        due("the other's WANT", x.of(1, 3), 5);
        due("sway(0, 4, 1)", x.sway(0, 4, 1), 5);
        due("its WANT", x.of(0, 7), 1);
        due("the other's WANT", x.of(1, 7), 5);
    }

    void p18NoSuchMember() {
        says("-1 (the BILL, the WANT); -2; -3 it is so.");
        RookHouse x = one();
        for (int m : new int[] {-1, 1, 7, LOW, HIGH}) {
            refuses(x, -2, "sway(" + m + ", 0, 1)", () -> x.sway(m, 0, 1));
        }
        RookHouse full = seven();
        due("sway(6, 4, 9)", full.sway(6, 4, 9), 0);
        refuses(full, -2, "sway(7, 0, 1)", () -> full.sway(7, 0, 1));
    }

    void p18NumberAheadOfMember() {
        says("The first of these in that order.");
        RookHouse x = one();
        refuses(x, -1, "sway(1, 5, 1)", () -> x.sway(1, 5, 1));
        refuses(x, -1, "sway(1, 0, 10)", () -> x.sway(1, 0, 10));
        refuses(x, -2, "sway(1, 0, 0), which is so of nobody", () -> x.sway(1, 0, 0));
    }

    void p18ItIsSo() {
        says("-3 it is so.");
        RookHouse x = house(1, 0, 0, 5, 9, 5, 5);
        refuses(x, -3, "sway(0, 0, 0)", () -> x.sway(0, 0, 0));
        refuses(x, -3, "sway(0, 2, 9)", () -> x.sway(0, 2, 9));
        due("sway(0, 2, 8)", x.sway(0, 2, 8), 9);
        refuses(x, -3, "sway(0, 2, 8) again", () -> x.sway(0, 2, 8));
        x.go(0);
        due("one that is AWAY", x.sway(0, 2, 7), 8);
        RookHouse y = under("wants 3", 1, 0, 0, 5, 9, 5, 5);
        due("by its WANT, not by its VALUE", y.sway(0, 0, 3), 0);
    }

    void p19LastDay() {
        says("it is the next DAY (at 999 it can't be)");
        RookHouse x = one();
        x.terms(0, 998);
        x.go(0);
        due("pass() at 998", x.pass(), 1);
        due("DAY", x.count(13), 999);
        x.go(0);
        refuses(x, -3, "pass() at 999", () -> x.pass());
        due("AWAY still", x.of(0, 2), 0);
        due("DAY", x.count(13), 999);
        x.undo();
        x.undo();
        due("DAY", x.count(13), 998);
        due("pass() at 998 again", x.pass(), 1);
    }

    void p19AllAreHere() {
        says("A DAY: how many came. -3.");
        RookHouse x = seven();
        due("nobody was AWAY", x.pass(), 0);
        x.go(6);
        due("the last one was", x.pass(), 1);
        for (int m = 0; m < 7; m++) {
            x.go(m);
        }
        due("all were", x.pass(), 7);
        due("all are HERE", x.count(1), 7);
        due("DAY", x.count(13), 3);
        due("an empty house", new RookHouse().pass(), 0);
    }

    void p20ThereIsNone() {
        says("-3 there is none");
        RookHouse x = new RookHouse();
        refuses(x, -3, "undo() of nothing", () -> x.undo());
        x.member(1, 0);
        refuses(x, -3, "undo() behind member()", () -> x.undo());
        x.go(0);
        due("undo()", x.undo(), 1);
        refuses(x, -3, "undo() again", () -> x.undo());
    }

    void p20WhichWasUndone() {
        says("(which BILLS STAND, who is HERE, WANTS, DAY are as they were): 0 .. 3");
        RookHouse x = house(5, 0, 9, 0, 0, 0, 0, 1, 0, 0, 0, 0, 0, 3);
        x.put(0);
        x.go(1);
        x.sway(1, 4, 9);
        x.pass();
        due("pass", x.undo(), 3);
        due("DAY", x.count(13), 0);
        due("AWAY again", x.of(1, 2), 0);
        due("WANT still", x.of(1, 7), 9);
        due("sway", x.undo(), 2);
        due("WANT", x.of(1, 7), 3);
        due("AWAY still", x.of(1, 2), 0);
        due("go", x.undo(), 1);
        due("HERE", x.of(1, 2), 1);
        due("STANDS still", x.count(2), 1);
        due("put", x.undo(), 0);
        due("STANDS no more", x.count(2), 0);
        due("none", x.undo(), -3);
    }

    void p20ComingIsUndone() {
        says("who is HERE");
        RookHouse x = seven();
        x.go(6);
        x.go(6);
        due("HERE", x.of(6, 2), 1);
        due("undo()", x.undo(), 1);
        due("AWAY", x.of(6, 2), 0);
        due("the others are HERE", x.count(1), 6);
        due("undo()", x.undo(), 1);
        due("HERE", x.of(6, 2), 1);
    }

    void p20DayIsUndoneForThoseWhoCame() {
        says("who is HERE");
        RookHouse x = seven();
        x.go(0);
        x.go(6);
        x.pass();
        x.go(3);
        x.pass();
        due("undo()", x.undo(), 3);
        due("HERE", x.count(1), 6);
        due("one is AWAY", x.of(3, 2), 0);
        x.undo();
        due("undo()", x.undo(), 3);
        due("HERE", x.count(1), 5);
        due("two are AWAY", x.of(0, 2) + x.of(6, 2), 0);
    }

    void p20PutTwiceUndoneOnce() {
        says("The latest put(), go(), sway(), pass() (by ORDERS, too; 16 are kept) is undone");
        RookHouse x = one();
        x.put(3);
        x.put(3);
        due("undo()", x.undo(), 0);
        due("STANDS", x.bill(3, 0), 1);
        due("undo()", x.undo(), 0);
        due("STANDS no more", x.bill(3, 0), 0);
        x.put(0);
        law(x, "bars");
        x.force(0);
        due("one that would not carry now", x.undo(), 0);
        due("STANDS no more", x.bill(0, 0), 0);
    }

    void p20SixteenAreKept() {
        says("16 are kept");
        RookHouse x = one();
        for (int i = 1; i <= 15; i++) {
            x.pass();
            due("can be undone", x.count(5), i);
        }
        x.pass();
        due("16", x.count(5), 16);
        x.pass();
        due("17", x.count(5), 16);
        x.pass();
        due("18", x.count(5), 16);
        for (int i = 15; i >= 0; i--) {
            due("undo()", x.undo(), 3);
            due("can be undone", x.count(5), i);
        }
        refuses(x, -3, "a seventeenth", () -> x.undo());
        due("DAY", x.count(13), 2);
    }

    void p20OldestAreLostFirst() {
        says("16 are kept");
        RookHouse x = house(5, 0, 9, 0, 0, 0, 0, 1, 0, 0, 0, 0, 0, 0);
        x.put(0);
        x.go(1);
        x.sway(0, 1, 1);
        for (int i = 2; i < 16; i++) {
            x.sway(0, 1, i % 9);
        }
        due("16", x.count(5), 16);
        for (int i = 15; i > 0; i--) {
            due("a WANT", x.undo(), 2);
        }
        due("the WANT at first", x.of(0, 4), 0);
        due("then the going", x.undo(), 1);
        due("the put is lost", x.undo(), -3);
        due("it STANDS", x.count(2), 1);
    }

    void p20KeptAnewBehindUndo() {
        says("16 are kept");
        RookHouse x = one();
        for (int i = 0; i < 20; i++) {
            x.pass();
        }
        for (int i = 0; i < 10; i++) {
            x.undo();
        }
        due("6 are left", x.count(5), 6);
        for (int i = 0; i < 12; i++) {
            x.go(0);
        }
        due("16 again", x.count(5), 16);
        for (int i = 0; i < 12; i++) {
            due("a going", x.undo(), 1);
        }
        for (int i = 0; i < 4; i++) {
            due("a day", x.undo(), 3);
        }
        due("no more", x.undo(), -3);
        due("DAY", x.count(13), 6);
    }

    void p20OfOrdersToo() {
        says("(by ORDERS, too; 16 are kept)");
        RookHouse x = one();
        x.sway(0, 0, 8);
        orders(x, "pass times 14;go 0");
        due("16", x.count(5), 16);
        due("the going", x.undo(), 1);
        for (int i = 0; i < 14; i++) {
            due("a day", x.undo(), 3);
        }
        due("the WANT", x.undo(), 2);
        due("no more", x.undo(), -3);
        orders(x, "pass times 20;go 0;pass");
        due("16 of 22", x.count(5), 16);
        for (int i = 0; i < 16; i++) {
            x.undo();
        }
        due("DAY", x.count(13), 6);
    }

    private static final String ENDS =
            "(nothing that was ahead of a member(), terms(), row(), back() that was not REFUSED can be undone)";

    private RookHouse gone() {
        RookHouse x = one();
        x.image(0);
        x.sway(0, 0, 8);
        x.go(0);
        return x;
    }

    private void nothingIsLeft(RookHouse x) {
        due("can be undone", x.count(5), 0);
        refuses(x, -3, "undo()", () -> x.undo());
        due("go(0)", x.go(0) >= 0 ? 1 : 0, 1);
        due("that can be undone", x.undo(), 1);
        due("and nothing else", x.undo(), -3);
    }

    private void allIsLeft(RookHouse x) {
        due("can be undone", x.count(5), 2);
        due("undo()", x.undo(), 1);
        due("HERE", x.of(0, 2), 1);
        due("undo()", x.undo(), 2);
        due("WANT", x.of(0, 3), 9);
    }

    void p20MemberEndsIt() {
        says(ENDS);
        RookHouse x = gone();
        x.member(1, 0);
        nothingIsLeft(x);
    }

    void p20RefusedMemberLeavesIt() {
        says(ENDS);
        RookHouse x = gone();
        x.member(0, 0);
        allIsLeft(x);
        RookHouse full = seven();
        full.go(0);
        full.member(1, 0);
        due("no room for one more", full.undo(), 1);
    }

    void p20TermsEndIt() {
        says(ENDS);
        for (int t = 0; t < 4; t++) {
            RookHouse x = gone();
            x.terms(t, 5);
            nothingIsLeft(x);
        }
        RookHouse y = gone();
        y.terms(0, 0);
        nothingIsLeft(y);
    }

    void p20RefusedTermsLeaveIt() {
        says(ENDS);
        RookHouse x = gone();
        x.terms(0, 1000);
        x.terms(4, 0);
        allIsLeft(x);
    }

    void p20RowEndsIt() {
        says(ENDS);
        RookHouse x = gone();
        bytes(x, 1, 0, 0, 0, 0, 0, 0);
        x.row();
        nothingIsLeft(x);
        RookHouse feathersAlone = gone();
        bytes(feathersAlone, 0);
        feathersAlone.row();
        nothingIsLeft(feathersAlone);
    }

    void p20RefusedRowLeavesIt() {
        says(ENDS);
        RookHouse x = gone();
        x.row();
        allIsLeft(x);
    }

    void p20BackEndsIt() {
        says(ENDS);
        RookHouse x = gone();
        x.back(0);
        nothingIsLeft(x);
        RookHouse y = gone();
        y.image(1);
        y.back(1);
        nothingIsLeft(y);
    }

    void p20RefusedBackLeavesIt() {
        says(ENDS);
        RookHouse x = gone();
        x.back(1);
        x.back(2);
        allIsLeft(x);
    }

    void p20OthersLeaveIt() {
        says(ENDS);
        RookHouse x = gone();
        law(x, "bars");
        x.force(0);
        x.force(NONE);
        x.seen(0, 1);
        x.forget();
        x.sessions(1, 60);
        x.image(0);
        x.feed(0, 0, 0, 0, 0);
        x.end(0);
        x.put(9);
        x.go(9);
        x.sway(0, 0, 8);
        x.first();
        x.compare(0);
        allIsLeft(x);
    }

    void p20RefusedDeedsAreNotKept() {
        says("The latest put(), go(), sway(), pass() (by ORDERS, too; 16 are kept) is undone");
        RookHouse x = house(1, 0, 0, 0, 0, 0, 0);
        x.terms(0, 999);
        x.put(0);
        x.put(5);
        x.go(1);
        x.sway(0, 0, 0);
        x.sway(0, 0, 10);
        x.pass();
        orders(x, "go 0;go 1");
        orders(x, "x");
        due("can be undone", x.count(5), 0);
        refuses(x, -3, "undo()", () -> x.undo());
    }
}
