/** Boundary cases of promises 37 to 42: sessions by draws, images, counts, what was refused. */
public final class BoundaryPaperTest extends Boundary {
    private static final int MODULUS = 1000003;

    public static void main(String[] args) throws Exception {
        new BoundaryPaperTest().runAll(args);
    }

    private static long next(long s) {
        return (s * 1103 + 12345) % MODULUS;
    }

    /** The lowest seed whose first session draws these. */
    private static int seedOf(int members, int member, int bill, int want, int deed) {
        for (int seed = 0; seed <= 1000000; seed++) {
            long a = next(seed);
            long b = next(a);
            long c = next(b);
            long d = next(c);
            if (a % members == member && b % 5 == bill && c % 10 == want && d % 4 == deed) {
                return seed;
            }
        }
        return -1;
    }

    /** The wants of so many sessions, five of each member. */
    private static int[] wantsBehind(int seed, int n, int members) {
        int[] wants = new int[5 * members];
        long s = seed;
        for (int i = 0; i < n; i++) {
            long a = next(s);
            long b = next(a);
            long c = next(b);
            s = next(c);
            if (s % 4 == 0) {
                wants[(int) (a % members * 5 + b % 5)] = (int) (c % 10);
            }
        }
        return wants;
    }

    private void sameWants(RookHouse x, String what, int[] wants) {
        for (int i = 0; i < wants.length; i++) {
            due(what + ": drawn(" + i / 5 + ", " + (2 + i % 5) + ")", x.drawn(i / 5, 2 + i % 5), wants[i]);
        }
    }

    void p37SeedTooSmallOrTooLarge() {
        says("s is the SEED (0 .. 1,000,000)");
        RookHouse x = one();
        for (int seed : new int[] {-1, 1000001, LOW, HIGH}) {
            refuses(x, -1, "sessions(" + seed + ", 1)", () -> x.sessions(seed, 1));
        }
        due("nothing is kept", x.drawn(0, 0), NONE);
        x.sway(0, 0, 0);
        due("sessions(0, 1)", x.sessions(0, 1) >= 0 ? 1 : 0, 1);
        due("sessions(1000000, 1)", x.sessions(1000000, 1) >= 0 ? 1 : 0, 1);
    }

    void p37TimesTooFewOrTooMany() {
        says("SESSIONS with a SEED, n 1 .. 60, on paper");
        RookHouse x = one();
        for (int n : new int[] {0, -1, 61, LOW, HIGH}) {
            refuses(x, -1, "sessions(0, " + n + ")", () -> x.sessions(0, n));
        }
        due("nothing is kept", x.drawn(0, 0), NONE);
        for (int n : new int[] {1, 2, 59, 60}) {
            RookHouse y = voices(2);
            due("sessions(7, " + n + ")", y.sessions(7, n) >= 0 ? 1 : 0, 1);
            sameWants(y, n + " times", wantsBehind(7, n, 2));
        }
    }

    private static RookHouse voices(int members) {
        RookHouse x = new RookHouse();
        for (int m = 0; m < members; m++) {
            x.member(1, 0);
        }
        return x;
    }

    void p37ThereAreNoMembers() {
        says("-1; -3 there are no MEMBERS.");
        RookHouse x = new RookHouse();
        refuses(x, -3, "sessions(0, 1)", () -> x.sessions(0, 1));
        refuses(x, -1, "a number ahead of that: sessions(-1, 1)", () -> x.sessions(-1, 1));
        refuses(x, -1, "a number ahead of that: sessions(0, 61)", () -> x.sessions(0, 61));
        x.terms(0, 999);
        refuses(x, -3, "sessions(0, 1) at DAY 999", () -> x.sessions(0, 1));
        RookHouse away = one();
        away.go(0);
        due("one that is AWAY", away.sessions(0, 1) >= 0 ? 1 : 0, 1);
    }

    void p37DrawsWrapAround() {
        says("a DRAW of m: s becomes (s times 1103 and 12345) modulo 1,000,003, it is s modulo m");
        for (int seed : new int[] {0, 1, 895, 896, 1000, 500000, 999999, 1000000}) {
            for (int members : new int[] {1, 3, 7}) {
                RookHouse x = voices(members);
                x.sessions(seed, 60);
                sameWants(x, "seed " + seed + ", " + members + " members", wantsBehind(seed, 60, members));
            }
        }
    }

    void p37EndsAtTheLastDay() {
        says("Each time (at DAY 999 it ends)");
        int seed = seedOf(1, 0, 2, 7, 0);
        RookHouse x = house(1, 0, 1, 1, 1, 1, 1);
        x.put(0);
        x.terms(0, 999);
        x.go(0);
        due("at 999", x.sessions(seed, 60), 0);
        due("status()", x.status(), 0);
        due("nothing came of it", x.drawn(0, 4), 1);
        due("AWAY as now", x.drawn(0, 1), 0);
        x.terms(0, 998);
        due("at 998", x.sessions(seed, 60), 0);
        due("one came of it", x.drawn(0, 4), 7);
        due("all are HERE", x.drawn(0, 1), 1);
        RookHouse many = voices(2);
        many.terms(0, 940);
        many.sessions(7, 60);
        sameWants(many, "from DAY 940", wantsBehind(7, 59, 2));
        many.terms(0, 939);
        many.sessions(7, 60);
        sameWants(many, "from DAY 939", wantsBehind(7, 60, 2));
    }

    void p37WhatTheLastDrawTells() {
        says("at 0 (the last DRAW) the MEMBER's WANT of that BILL (the second) is the third, at 1 it GOES, at 2, 3 the BILL is PUT, if it CARRIES");
        for (int deed = 0; deed < 4; deed++) {
            RookHouse x = house(3, 0, 9, 9, 9, 9, 5, 1, 0, 0, 0, 0, 0, 0);
            due("BILLS that STAND at " + deed, x.sessions(seedOf(2, 0, 4, 8, deed), 1), deed > 1 ? 1 : 0);
            due("drawn(4, 0) at " + deed, x.drawn(4, 0), deed > 1 ? 1 : 0);
            due("drawn(0, 6) at " + deed, x.drawn(0, 6), deed == 0 ? 8 : 5);
            due("all are HERE at " + deed, x.drawn(0, 1) * 10 + x.drawn(1, 1), 11);
            x.put(4);
            due("BILLS that STAND then at " + deed, x.sessions(seedOf(2, 0, 4, 8, deed), 1), deed > 1 ? 0 : 1);
        }
        RookHouse alike = house(3, 0, 9, 9, 9, 9, 5);
        alike.sessions(seedOf(1, 0, 4, 5, 0), 1);
        due("a WANT that is so", alike.drawn(0, 6), 5);
        RookHouse never = house(3, 0, 0, 0, 0, 0, 4);
        due("one that does not CARRY", never.sessions(seedOf(1, 0, 4, 8, 2), 1) + never.sessions(seedOf(1, 0, 4, 8, 3), 1), 0);
    }

    void p37TheDayPasses() {
        says("then the DAY passes");
        RookHouse x = under("wants 9 if day=1", 1, 0, 0, 0, 0, 0, 0);
        due("at DAY 0", x.sessions(seedOf(1, 0, 3, 1, 2), 1), 0);
        int seed = 0;
        for (int s = 0; s < 1000000 && seed == 0; s++) {
            long d = s;
            int[] deeds = new int[2];
            for (int i = 0; i < 8; i++) {
                d = next(d);
                deeds[i / 4] = (int) (d % 4);
            }
            seed = deeds[0] == 1 && deeds[1] == 2 ? s : 0;
        }
        due("at DAY 1", x.sessions(seed, 2), 1);
        due("one who was AWAY is HERE for the next", x.drawn(0, 1), 1);
    }

    void p37ByTheLawInForce() {
        says("at 2, 3 the BILL is PUT, if it CARRIES");
        String law = "wants 0;wants 9 if side=3 and voice=4 and mood=6 and member=0 and here=1";
        RookHouse x = under(law, 4, 3, 0, 0, 0, 0, 0);
        x.terms(2, 6);
        due("by SIDE, VOICE, MOOD", x.sessions(seedOf(1, 0, 1, 0, 2), 1), 1);
        x.terms(2, 5);
        due("by another MOOD", x.sessions(seedOf(1, 0, 1, 0, 2), 1), 0);
        x.terms(2, 6);
        x.terms(3, 5);
        due("by a NEED", x.sessions(seedOf(1, 0, 1, 0, 2), 1), 0);
    }

    void p37OnPaper() {
        says("SESSIONS, kept as the latest: how many BILLS STAND behind them.");
        RookHouse x = house(THREE);
        x.go(1);
        due("sessions(15, 60)", x.sessions(15, 60) >= 0 ? 1 : 0, 1);
        due("DAY", x.count(13), 0);
        due("HERE", x.count(1), 2);
        due("BILLS that STAND", x.count(2), 0);
        due("can be undone", x.count(5), 1);
        for (int i = 0; i < 21; i++) {
            if (i % 7 > 1) {
                due("WANT", x.of(i / 7, 1 + i % 7), THREE[i]);
            }
        }
    }

    void p38NoneAheadOfAny() {
        says("Behind the latest SESSIONS whether BILL k STANDS (what 0: 1, 0), whether MEMBER k is HERE (1: 1, 0), MEMBER k's WANT of BILL b (2 + b). NONE.");
        RookHouse x = one();
        for (int w = 0; w < 7; w++) {
            int what = w;
            none(x, "drawn(0, " + w + ")", () -> x.drawn(0, what));
        }
        x.sessions(0, 0);
        none(x, "behind a refused one", () -> x.drawn(0, 0));
        RookHouse empty = new RookHouse();
        empty.sessions(0, 1);
        none(empty, "behind one without MEMBERS", () -> empty.drawn(0, 0));
    }

    void p38NoSuchBillMemberWhat() {
        says("MEMBER k's WANT of BILL b (2 + b). NONE.");
        RookHouse x = house(1, 0, 1, 2, 3, 4, 5);
        x.terms(0, 999);
        x.sessions(0, 1);
        int[] told = {0, 1, 1, 2, 3, 4, 5};
        for (int w = 0; w < 7; w++) {
            due("drawn(0, " + w + ")", x.drawn(0, w), told[w]);
        }
        for (int k : new int[] {-1, 5, 7, LOW, HIGH}) {
            for (int w = 0; w < 3; w++) {
                int what = w;
                none(x, "drawn(" + k + ", " + w + ")", () -> x.drawn(k, what));
            }
        }
        none(x, "drawn(1, 1)", () -> x.drawn(1, 1));
        none(x, "drawn(1, 2)", () -> x.drawn(1, 2));
        due("BILL 4 without a MEMBER 4", x.drawn(4, 0), 0);
        for (int w : new int[] {-1, 7, LOW, LOW + 2, HIGH}) {
            none(x, "drawn(0, " + w + ")", () -> x.drawn(0, w));
        }
    }

    void p38TheLatestThatWasNotRefused() {
        says("Behind the latest SESSIONS");
        RookHouse x = house(1, 0, 1, 1, 1, 1, 1);
        x.sessions(seedOf(1, 0, 2, 7, 0), 1);
        due("the first", x.drawn(0, 4), 7);
        x.sessions(-1, 1);
        x.sessions(0, 61);
        due("refused ones leave it", x.drawn(0, 4), 7);
        x.member(1, 0);
        x.sway(0, 4, 9);
        x.put(4);
        due("later ones leave it", x.drawn(0, 6), 1);
        none(x, "one who came later", () -> x.drawn(1, 1));
        x.sessions(seedOf(2, 1, 2, 6, 0), 1);
        due("the next", x.drawn(0, 4), 1);
        due("the next", x.drawn(1, 4), 6);
    }

    void p39NoSuchImage() {
        says("IMAGE k is kept: 0; -1.");
        RookHouse x = one();
        for (int k : new int[] {-1, 2, LOW, HIGH}) {
            refuses(x, -1, "image(" + k + ")", () -> x.image(k));
        }
        due("image(0)", x.image(0), 0);
        due("image(1)", x.image(1), 0);
        due("status()", x.status(), 0);
    }

    void p39KeptAnew() {
        says("IMAGE k is kept: 0; -1.");
        RookHouse x = one();
        x.image(0);
        x.image(1);
        x.put(0);
        x.image(0);
        x.put(1);
        x.back(0);
        due("the later one", x.count(2), 1);
        x.back(1);
        due("the other one is as it was", x.count(2), 0);
    }

    void p39LeavesWhatCanBeUndone() {
        says("what can be undone (nothing, behind back())");
        RookHouse x = one();
        x.go(0);
        x.image(0);
        x.image(2);
        due("behind image()", x.count(5), 1);
        x.back(0);
        due("behind back()", x.count(5), 0);
        due("undo()", x.undo(), -3);
        due("AWAY as kept", x.of(0, 2), 0);
    }

    void p40NoSuchImageOrNotKept() {
        says("BACK to IMAGE k: 0. -1; -2 it was not kept.");
        RookHouse x = one();
        for (int k : new int[] {-1, 2, LOW, HIGH}) {
            refuses(x, -1, "back(" + k + ")", () -> x.back(k));
        }
        refuses(x, -2, "back(0)", () -> x.back(0));
        refuses(x, -2, "back(1)", () -> x.back(1));
        x.image(1);
        refuses(x, -2, "back(0), 1 was kept", () -> x.back(0));
        due("back(1)", x.back(1), 0);
    }

    void p40ImagesStay() {
        says("BACK to one all that it keeps is as it was then (IMAGES stay).");
        RookHouse x = new RookHouse();
        x.image(0);
        x.member(1, 0);
        x.image(1);
        x.member(2, 0);
        due("back(0)", x.back(0), 0);
        due("MEMBERS", x.count(0), 0);
        due("back(1)", x.back(1), 0);
        due("MEMBERS", x.count(0), 1);
        x.sway(0, 0, 9);
        x.go(0);
        due("back(1) again", x.back(1), 0);
        due("WANT", x.of(0, 3), 0);
        due("HERE", x.of(0, 2), 1);
        due("back(0) again", x.back(0), 0);
        due("MEMBERS", x.count(0), 0);
    }

    void p40AllThatItKeeps() {
        says("BACK to one all that it keeps is as it was then");
        RookHouse x = house(THREE);
        law(x, "speaks 7");
        x.force(0);
        x.seen(0, 1);
        x.terms(0, 11);
        x.terms(1, 2);
        x.terms(2, 3);
        x.terms(3, 4);
        x.put(0);
        x.go(2);
        x.image(0);
        law(x, "speaks 1");
        x.force(1);
        x.forget();
        x.seen(0, 3);
        x.seen(2, 1);
        for (int t = 0; t < 4; t++) {
            x.terms(t, 0);
        }
        x.put(0);
        x.put(1);
        x.go(0);
        x.sway(0, 0, 0);
        x.sway(2, 4, 9);
        x.member(9, 3);
        x.back(0);
        int[] counts = {3, 2, 1, 1, 1, 0};
        for (int w = 0; w < counts.length; w++) {
            due("count(" + w + ")", x.count(w), counts[w]);
        }
        int[] rest = {0, 11, 2, 3, 4};
        for (int w = 0; w < rest.length; w++) {
            due("count(" + (12 + w) + ")", x.count(12 + w), rest[w]);
        }
        due("who is HERE", x.of(0, 2) * 100 + x.of(1, 2) * 10 + x.of(2, 2), 110);
        due("WANTS", x.of(0, 3) * 10 + x.of(2, 7), 90);
        due("the LAW", x.asks(0, 0, 0), 7);
        due("what was SEEN", x.canBe(), 5);
    }

    void p40MembersAsTheyWere() {
        says("BACK to one all that it keeps is as it was then");
        RookHouse x = new RookHouse();
        x.image(0);
        x.member(4, 2);
        x.image(1);
        x.back(0);
        x.member(9, 3);
        x.sway(0, 2, 7);
        due("back(1)", x.back(1), 0);
        due("VOICE", x.of(0, 0), 4);
        due("SIDE", x.of(0, 1), 2);
        due("WANT", x.of(0, 5), 0);
    }

    void p40SeenAsItWas() {
        says("BACK to one all that it keeps is as it was then");
        RookHouse x = house(1, 0, 9, 5, 0, 0, 0, 1, 0, 5, 9, 0, 0, 0, 1, 0, 1, 2, 3, 0, 0);
        x.seen(0, 1);
        x.image(0);
        x.forget();
        x.seen(0, 2);
        due("then", x.canBe(), 3);
        x.back(0);
        due("BACK", x.canBe(), 1);
        x.forget();
        x.seen(2, 1);
        due("then", x.canBe(), 4);
        x.back(0);
        due("BACK", x.canBe(), 1);
    }

    void p40WhatItDoesNotKeep() {
        says("IMAGES 0, 1 keep all but the TAPE, FAULT, FEATHERS, where ORDERS stopped, what can be undone (nothing, behind back()), the latest SESSIONS");
        RookHouse x = one();
        x.image(0);
        bytes(x, 0, 1);
        x.row();
        orders(x, "pass;pass;go 9");
        law(x, "bars x");
        x.terms(0, 999);
        x.put(3);
        x.sessions(0, 1);
        text(x, "bars");
        x.back(0);
        due("bytes of the TAPE", x.count(6), 4);
        due("FAULT", x.fault(), 5);
        due("FEATHERS", x.feathers(), 1);
        due("where ORDERS stopped", x.stopped(), 2);
        due("the latest SESSIONS", x.drawn(3, 0), 1);
        due("the TAPE is read", x.law(), 0);
        due("refused by -3 and -6", x.count(9) * 10 + x.count(11), 11);
    }

    void p41NoneForOthers() {
        says("NONE for others.");
        RookHouse x = one();
        x.terms(3, 7);
        due("count(16)", x.count(16), 7);
        for (int w : new int[] {-1, 17, LOW, HIGH}) {
            none(x, "count(" + w + ")", () -> x.count(w));
        }
    }

    void p41HowManyWereRefused() {
        says("7 .. 11 how many calls were REFUSED by -1, -2, -3, -5, -6 (IMAGES do not keep that)");
        RookHouse x = seven();
        x.image(0);
        int[] due = {1, 2, 3, 4, 5};
        x.put(5);
        x.go(7);
        x.back(1);
        x.undo();
        x.put(0);
        x.sway(0, 0, 0);
        for (int i = 0; i < 4; i++) {
            x.member(1, 0);
        }
        x.row();
        x.law();
        x.orders();
        law(x, "x");
        orders(x, "x");
        for (int i = 0; i < 5; i++) {
            due("count(" + (7 + i) + ")", x.count(7 + i), due[i]);
        }
        x.back(0);
        for (int i = 0; i < 5; i++) {
            due("behind back(), count(" + (7 + i) + ")", x.count(7 + i), due[i]);
        }
    }

    void p41SetsAndSizes() {
        says("0 MEMBERS, 1 how many are HERE, 2 which BILLS STAND, as bits, 3 SEEN, 4 LAWS, 5 how many can be undone, 6 bytes of the TAPE");
        RookHouse x = house(9, 0, 9, 9, 9, 9, 9);
        for (int m = 1; m < 7; m++) {
            x.member(1, 0);
        }
        for (int i = 0; i < 6; i++) {
            law(x, "bars");
            x.seen(0, 1);
        }
        for (int b = 0; b < 5; b++) {
            x.put(b);
        }
        for (int m = 0; m < 14; m++) {
            x.go(m % 7);
        }
        x.go(6);
        text(x, " ".repeat(400));
        int[] full = {7, 6, 31, 6, 6, 16, 400};
        for (int w = 0; w < full.length; w++) {
            due("count(" + w + ")", x.count(w), full[w]);
        }
        due("12 the LAW in FORCE", x.count(12), NONE);
        x.force(5);
        due("12 the LAW in FORCE", x.count(12), 5);
    }

    private void told(RookHouse x, String what, int answer, int status) {
        due("status() behind " + what + ", which answered " + answer, x.status(), status);
    }

    void p42ZeroAheadOfAny() {
        says("0 if it was not, or ahead of any");
        RookHouse x = new RookHouse();
        due("ahead of any", x.status(), 0);
        x.of(0, 0);
        x.votes(0, 0);
        x.few(0, 0);
        x.end(9);
        due("behind others alone", x.status(), 0);
    }

    void p42EachOfThoseThatAreRefused() {
        says("What the latest call of member, terms, row, law, orders, force, put, go, sway, pass, undo, seen, sessions, image, back was REFUSED by");
        RookHouse x = one();
        told(x, "row", 1, 0);
        told(x, "member", x.member(0, 0), -1);
        told(x, "member", x.member(1, 0), 0);
        told(x, "terms", x.terms(4, 0), -1);
        told(x, "terms", x.terms(0, 0), 0);
        told(x, "row", x.row(), -6);
        told(x, "law", law(x, "bars if 1=2"), 0);
        told(x, "law", law(x, "x"), -6);
        told(x, "orders", orders(x, "pass"), 0);
        told(x, "orders", orders(x, "x"), -6);
        told(x, "orders", orders(x, "go 9"), -3);
        told(x, "force", x.force(0), 0);
        told(x, "force", x.force(1), -2);
        told(x, "put", x.put(0), 0);
        told(x, "put", x.put(5), -1);
        told(x, "go", x.go(0), 0);
        told(x, "go", x.go(2), -2);
        told(x, "sway", x.sway(0, 0, 8), 0);
        told(x, "sway", x.sway(0, 0, 8), -3);
        told(x, "pass", x.pass(), 0);
        told(x, "undo", x.undo(), 0);
        told(x, "seen", x.seen(0, 0), -1);
        told(x, "seen", x.seen(0, 1), 0);
        told(x, "sessions", x.sessions(0, 0), -1);
        told(x, "sessions", x.sessions(0, 1), 0);
        told(x, "image", x.image(2), -1);
        told(x, "image", x.image(0), 0);
        told(x, "back", x.back(1), -2);
        told(x, "back", x.back(0), 0);
        told(x, "undo", x.undo(), -3);
        x.terms(0, 999);
        told(x, "pass", x.pass(), -3);
        RookHouse full = seven();
        told(full, "member", full.member(1, 0), -5);
    }

    void p42OthersLeaveIt() {
        says("What the latest call of member, terms, row, law, orders, force, put, go, sway, pass, undo, seen, sessions, image, back");
        RookHouse x = house(THREE);
        x.go(9);
        x.of(0, 0);
        x.of(9, 0);
        x.asks(0, 0, 0);
        x.bill(0, 0);
        x.feed(0, 0, 0, 0, 0);
        x.end(0);
        x.end(-1);
        x.feathers();
        x.fault();
        x.stopped();
        x.votes(0, 1);
        x.best();
        x.rings();
        x.agenda(0, 0);
        x.power(0, 0);
        x.pivot(0, 0);
        x.enough(0, 0);
        x.out(0, 0);
        x.first();
        x.falsely(0, 0);
        x.forget();
        x.canBe();
        x.ask(0);
        x.few(1, 1);
        x.compare(NONE);
        x.drawn(0, 0);
        x.count(0);
        due("a refused one", x.status(), -2);
        due("is told again", x.status(), -2);
        x.go(0);
        x.votes(0, 0);
        x.end(400);
        x.compare(9);
        due("one that was not", x.status(), 0);
    }
}
