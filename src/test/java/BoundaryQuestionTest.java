/** Boundary cases of promises 21 to 36: what is asked on paper, and what was seen. */
public final class BoundaryQuestionTest extends Boundary {
    private static final int[] WRONG = {-1, 5, LOW, HIGH};
    /** Each next one is the one before, turned by one: each bill beats the next two. */
    private static final int[] CIRCLE = {1, 0, 4, 3, 2, 1, 0, 1, 0, 0, 4, 3, 2, 1, 1, 0, 1, 0, 4, 3, 2, 1, 0, 2, 1, 0, 4, 3, 1, 0, 3, 2, 1, 0, 4};
    private static final long CERTAIN = 1000000000000L;

    public static void main(String[] args) throws Exception {
        new BoundaryQuestionTest().runAll(args);
    }

    private static RookHouse voices(int... voices) {
        RookHouse x = new RookHouse();
        for (int voice : voices) {
            x.member(voice, 0);
        }
        return x;
    }

    void p21OneBillAlone() {
        says("VOTES for a BILL against another one. NONE (one BILL alone; none such).");
        RookHouse x = house(THREE);
        for (int b = 0; b < 5; b++) {
            int bill = b;
            none(x, "votes(" + b + ", " + b + ")", () -> x.votes(bill, bill));
        }
        for (int wrong : WRONG) {
            none(x, "votes(" + wrong + ", 0)", () -> x.votes(wrong, 0));
            none(x, "votes(0, " + wrong + ")", () -> x.votes(0, wrong));
            none(x, "votes(" + wrong + ", " + wrong + ")", () -> x.votes(wrong, wrong));
        }
        due("votes(4, 0)", x.votes(4, 0), 0);
        due("votes(0, 4)", x.votes(0, 4), 7);
    }

    void p21ValuedMoreByThoseOnBoth() {
        says("VOTES for a BILL against another one: VOICES (on the first) of those who are ON both and VALUE the first more.");
        RookHouse alike = house(3, 0, 5, 5, 4, 6, 0);
        due("alike", alike.votes(0, 1) + alike.votes(1, 0), 0);
        due("one more", alike.votes(0, 2), 3);
        due("one less", alike.votes(0, 3), 0);
        alike.go(0);
        due("AWAY", alike.votes(0, 2), 0);
        RookHouse barred = under("bars if bill=2;speaks bill+1", 3, 0, 9, 0, 5, 0, 0);
        due("BARRED from the other", barred.votes(0, 2), 0);
        due("BARRED from the first", barred.votes(2, 1), 0);
        due("voices on the first", barred.votes(0, 4), 1);
        RookHouse last = under("wants bill;speaks bill+1", 3, 0, 0, 0, 0, 0, 0);
        due("voices on the first, not on the other", last.votes(4, 1), 5);
        due("nobody", new RookHouse().votes(0, 1), 0);
    }

    void p22ThereIsNone() {
        says("The BEST. NONE.");
        RookHouse empty = new RookHouse();
        none(empty, "best() of nobody", () -> empty.best());
        RookHouse ring = house(THREE);
        none(ring, "best() of a ring", () -> ring.best());
        RookHouse alike = house(1, 0, 9, 9, 0, 0, 0);
        none(alike, "best() of alike ones", () -> alike.best());
        RookHouse away = house(1, 0, 9, 0, 0, 0, 0);
        due("best()", away.best(), 0);
        away.go(0);
        none(away, "best() with all AWAY", () -> away.best());
    }

    void p22BeatsAllOthers() {
        says("The BEST: the BILL that BEATS all others.");
        for (int b = 0; b < 5; b++) {
            RookHouse x = house(1, 0, 3, 3, 3, 3, 3);
            x.sway(0, b, 4);
            due("best()", x.best(), b);
            x.sway(0, (b + 1) % 5, 4);
            due("beats three alone", x.best(), NONE);
        }
    }

    void p22BeatsByMoreVotes() {
        says("A BILL BEATS another one, if it has more VOTES than that one against it.");
        int[] even = {3, 0, 9, 0, 0, 0, 0, 3, 0, 0, 9, 0, 0, 0};
        due("as many votes", house(even).best(), NONE);
        due("one more vote", house(4, 0, 9, 0, 0, 0, 0, 3, 0, 0, 9, 0, 0, 0).best(), 0);
        due("one fewer", house(3, 0, 9, 0, 0, 0, 0, 4, 0, 0, 9, 0, 0, 0).best(), 1);
        due("without a voice", under("speaks 0", 3, 0, 9, 0, 0, 0, 0).best(), NONE);
    }

    void p23EachThreeOnce() {
        says("(each three once)");
        due("nobody", new RookHouse().rings(), 0);
        due("one ring", house(THREE).rings(), 1);
        due("as many as can be", house(CIRCLE).rings(), 5);
        due("an order", house(1, 0, 4, 3, 2, 1, 0).rings(), 0);
        due("the other way round", house(2, 0, 1, 5, 9, 0, 0, 2, 0, 5, 9, 1, 0, 0, 3, 0, 9, 1, 5, 0, 0).rings(), 1);
        due("of the last three", house(2, 0, 0, 0, 9, 5, 1, 2, 0, 0, 0, 1, 9, 5, 3, 0, 0, 0, 5, 1, 9).rings(), 1);
    }

    void p23AlikeVotesMakeNone() {
        says("A BILL BEATS another one, if it has more VOTES than that one against it.");
        RookHouse x = house(2, 0, 9, 5, 1, 0, 0, 2, 0, 1, 9, 5, 0, 0, 2, 0, 5, 1, 9, 0, 0);
        due("a ring", x.rings(), 1);
        x.member(2, 0);
        x.sway(3, 1, 9);
        x.sway(3, 0, 8);
        due("two of them have as many votes", x.votes(0, 1) - x.votes(1, 0), 0);
        due("no ring", x.rings(), 0);
    }

    void p24HowManyOrNone() {
        says("how many (what 0; NONE, if there is none)");
        RookHouse x = house(1, 0, 1, 2, 3, 9, 4);
        due("all of them", x.agenda(3, 0), 120);
        for (int b = 0; b < 5; b++) {
            int bill = b;
            if (b != 3) {
                none(x, "agenda(" + b + ", 0)", () -> x.agenda(bill, 0));
                none(x, "agenda(" + b + ", 1)", () -> x.agenda(bill, 1));
                none(x, "agenda(" + b + ", 5)", () -> x.agenda(bill, 5));
            }
        }
        RookHouse empty = new RookHouse();
        for (int b = 0; b < 5; b++) {
            due("none beats another, so that the first of the order stays: agenda(" + b + ", 0)", empty.agenda(b, 0), 24);
        }
    }

    void p24KthBillOfTheFirst() {
        says("the k-th BILL of the first (1 + k). NONE (no such BILL; there is none).");
        RookHouse empty = new RookHouse();
        int[] first = {3, 0, 1, 2, 4};
        for (int k = 0; k < 5; k++) {
            due("agenda(3, " + (1 + k) + ")", empty.agenda(3, 1 + k), first[k]);
        }
        for (int w : new int[] {-1, 6, LOW, HIGH}) {
            none(empty, "agenda(3, " + w + ")", () -> empty.agenda(3, w));
        }
        for (int b : WRONG) {
            none(empty, "agenda(" + b + ", 0)", () -> empty.agenda(b, 0));
            none(empty, "agenda(" + b + ", 1)", () -> empty.agenda(b, 1));
        }
        RookHouse ring = house(THREE);
        int[] order = {1, 2, 0, 3, 4};
        for (int k = 0; k < 5; k++) {
            due("of a ring, " + k, ring.agenda(0, 1 + k), order[k]);
        }
    }

    void p24JustOne() {
        says("how many (what 0; NONE, if there is none)");
        // 4 beats 0, 1, 3; 0 beats 1, 2; 1 beats 2, 3; 2 beats 3; the others have as many votes: 1 must come last, behind 2.
        RookHouse x = house(5, 0, 3, 2, 1, 0, 4, 1, 0, 4, 5, 4, 5, 1, 4, 0, 1, 1, 3, 2, 2);
        due("how many", x.agenda(1, 0), 1);
        int[] order = {3, 0, 2, 4, 1};
        for (int k = 0; k < 5; k++) {
            due("agenda(1, " + (1 + k) + ")", x.agenda(1, 1 + k), order[k]);
        }
    }

    void p25NoSuchMemberBill() {
        says("POWER (one that is not ON it: 0). NONE (no such MEMBER, BILL).");
        RookHouse x = voices(3);
        for (int wrong : WRONG) {
            none(x, "power(" + wrong + ", 0)", () -> x.power(wrong, 0));
            none(x, "power(0, " + wrong + ")", () -> x.power(0, wrong));
        }
        none(x, "power(1, 0)", () -> x.power(1, 0));
        due("alone", x.power(0, 4), 1);
        x.go(0);
        due("AWAY", x.power(0, 4), 0);
        due("BARRED", under("bars", 3, 0, 0, 0, 0, 0, 0).power(0, 0), 0);
        RookHouse empty = new RookHouse();
        none(empty, "power(0, 0) in an empty house", () -> empty.power(0, 0));
    }

    void p25NobodyToo() {
        says("sets of others ON it (nobody, too) the VOICES of which are less than NEEDED, but not with its own");
        due("alone", voices(1).power(0, 0), 1);
        RookHouse x = voices(3, 2, 2);
        x.terms(3, 3);
        due("just as many by itself", x.power(0, 0), 3);
        x.terms(3, 5);
        int[] five = {3, 1, 1};
        for (int m = 0; m < 3; m++) {
            due("of NEED 5, " + m, x.power(m, 0), five[m]);
        }
        x.terms(3, 7);
        due("all are just enough", x.power(0, 0) + x.power(1, 0) + x.power(2, 0), 3);
        x.terms(3, 8);
        due("all are not", x.power(0, 0) + x.power(1, 0) + x.power(2, 0), 0);
        due("without a voice", under("speaks 0", 3, 0, 0, 0, 0, 0, 0).power(0, 0), 0);
        due("seven alike", seven().power(6, 4), 20);
    }

    void p25OthersWhoAreOnItAlone() {
        says("sets of others ON it");
        RookHouse x = voices(1, 1, 1);
        due("three", x.power(0, 0), 2);
        x.go(2);
        due("one of them AWAY", x.power(0, 0), 1);
        due("one of them BARRED", under("bars if member=2", 1, 0, 0, 0, 0, 0, 0, 1, 0, 0, 0, 0, 0, 0, 1, 0, 0, 0, 0, 0, 0).power(0, 0), 1);
    }

    void p26NoSuchMemberBill() {
        says("PIVOT (one that is not ON it: 0). NONE (no such MEMBER, BILL).");
        RookHouse x = voices(3);
        for (int wrong : WRONG) {
            none(x, "pivot(" + wrong + ", 0)", () -> x.pivot(wrong, 0));
            none(x, "pivot(0, " + wrong + ")", () -> x.pivot(0, wrong));
        }
        none(x, "pivot(1, 0)", () -> x.pivot(1, 0));
        due("alone", x.pivot(0, 4), 1);
        x.go(0);
        due("AWAY", x.pivot(0, 4), 0);
        due("BARRED", under("bars", 3, 0, 0, 0, 0, 0, 0).pivot(0, 0), 0);
        RookHouse empty = new RookHouse();
        none(empty, "pivot(0, 0) in an empty house", () -> empty.pivot(0, 0));
    }

    void p26ComesToNeededByJustThatOne() {
        says("PIVOT: orders of all ON it in which VOICES, one more behind the other, come to NEEDED or more by just that MEMBER.");
        RookHouse x = voices(3, 2, 2);
        x.terms(3, 5);
        int[] five = {4, 1, 1};
        for (int m = 0; m < 3; m++) {
            due("of NEED 5, " + m, x.pivot(m, 0), five[m]);
        }
        x.terms(3, 1);
        due("the first of each order", x.pivot(0, 0), 2);
        x.terms(3, 7);
        due("the last of each order", x.pivot(0, 0), 2);
        x.terms(3, 8);
        due("never", x.pivot(0, 0), 0);
        due("seven alike", seven().pivot(6, 4), 720);
        RookHouse tyrant = voices(9, 1, 1, 1, 1, 1, 1);
        due("one who is enough", tyrant.pivot(0, 0), 5040);
        due("one who is nothing", tyrant.pivot(1, 0), 0);
        due("without a voice", under("speaks 0", 3, 0, 0, 0, 0, 0, 0).pivot(0, 0), 0);
        x.terms(3, 5);
        x.go(2);
        due("two alone", x.pivot(0, 0) * 10 + x.pivot(1, 0), 11);
    }

    void p27NoneAreEnough() {
        says("ENOUGH: how many (what 0), who, as bits (1). NONE (no such BILL; all are not).");
        RookHouse x = voices(3, 2, 2);
        x.terms(3, 7);
        due("all are just enough", x.enough(0, 0), 3);
        due("who", x.enough(0, 1), 7);
        x.terms(3, 8);
        for (int w = 0; w < 2; w++) {
            int what = w;
            none(x, "enough(0, " + w + ") of one too many", () -> x.enough(0, what));
        }
        RookHouse empty = new RookHouse();
        none(empty, "enough(0, 0) of nobody", () -> empty.enough(0, 0));
        none(empty, "enough(0, 1) of nobody", () -> empty.enough(0, 1));
        RookHouse away = voices(3);
        away.go(0);
        none(away, "enough(0, 0) with all AWAY", () -> away.enough(0, 0));
    }

    void p27NoSuchBillWhat() {
        says("NONE (no such BILL; all are not).");
        RookHouse x = voices(3);
        for (int b : WRONG) {
            none(x, "enough(" + b + ", 0)", () -> x.enough(b, 0));
            none(x, "enough(" + b + ", 1)", () -> x.enough(b, 1));
        }
        for (int w : new int[] {-1, 2, LOW, HIGH}) {
            none(x, "enough(0, " + w + ")", () -> x.enough(0, w));
        }
        due("enough(4, 0)", x.enough(4, 0), 1);
    }

    void p27FewestThenLowest() {
        says("ENOUGH: the fewest ON it the VOICES of whom are as many as NEEDED; the lowest as bits.");
        RookHouse x = voices(1, 2, 2, 2);
        due("two of four", x.enough(0, 0), 2);
        due("the lowest", x.enough(0, 1), 6);
        RookHouse y = voices(1, 1, 1, 3);
        due("fewest ahead of lowest", y.enough(0, 0), 2);
        due("who", y.enough(0, 1), 9);
        y.terms(3, 3);
        due("just as many", y.enough(0, 1), 8);
        RookHouse full = seven();
        full.terms(3, 7);
        due("all seven", full.enough(0, 0), 7);
        due("who", full.enough(0, 1), 127);
        due("BARRED ones are not ON it", under("bars if member=0", 9, 0, 0, 0, 0, 0, 0, 1, 0, 0, 0, 0, 0, 0).enough(0, 1), 2);
    }

    void p28NoSuchBillWhat() {
        says("NONE (no such BILL; it can't be).");
        RookHouse x = one();
        for (int b : WRONG) {
            none(x, "out(" + b + ", 0)", () -> x.out(b, 0));
            none(x, "out(" + b + ", 1)", () -> x.out(b, 1));
        }
        for (int w : new int[] {-1, 2, LOW, HIGH}) {
            none(x, "out(0, " + w + ")", () -> x.out(0, w));
        }
        due("out(4, 0)", x.out(4, 0), 0);
    }

    void p28CarriesNow() {
        says("OUT: how many (what 0; it CARRIES now: 0), who, as bits (1).");
        RookHouse x = one();
        due("how many", x.out(0, 0), 0);
        due("who", x.out(0, 1), 0);
    }

    void p28ItCantBe() {
        says("NONE (no such BILL; it can't be).");
        RookHouse empty = new RookHouse();
        none(empty, "out(0, 0) of nobody", () -> empty.out(0, 0));
        none(empty, "out(0, 1) of nobody", () -> empty.out(0, 1));
        RookHouse x = house(1, 0, 4, 9, 0, 0, 0, 9, 0, 4, 0, 0, 0, 0);
        none(x, "out(0, 0) without one FOR it", () -> x.out(0, 0));
        due("out(1, 0)", x.out(1, 0), 1);
        x.terms(3, 2);
        none(x, "out(1, 0) by a NEED that none can meet", () -> x.out(1, 0));
        x.terms(3, 1);
        due("out(1, 0) by a NEED that is met", x.out(1, 0), 0);
    }

    void p28FewestThenLowest() {
        says("OUT: the fewest of those ON it without whom (as if AWAY; \"here\" as now, NEEDED by those left) it would CARRY; the lowest as bits.");
        RookHouse x = house(2, 0, 0, 0, 0, 0, 0, 2, 0, 0, 0, 0, 0, 0, 3, 0, 9, 0, 0, 0, 0);
        due("one of two alike", x.out(0, 0), 1);
        due("the lowest", x.out(0, 1), 1);
        RookHouse y = house(1, 0, 0, 0, 0, 0, 0, 1, 0, 0, 0, 0, 0, 0, 2, 0, 0, 0, 0, 0, 0, 3, 0, 9, 0, 0, 0, 0);
        due("fewest ahead of lowest", y.out(0, 0), 1);
        due("who", y.out(0, 1), 4);
        due("just half is not enough", house(1, 0, 0, 0, 0, 0, 0, 1, 0, 9, 0, 0, 0, 0).out(0, 1), 1);
        RookHouse z = new RookHouse();
        for (int m = 0; m < 6; m++) {
            bytes(z, 9, 0, 0, 0, 0, 0, 0);
        }
        bytes(z, 1, 0, 5, 0, 0, 0, 0);
        z.row();
        due("all but one", z.out(0, 0), 6);
        due("who", z.out(0, 1), 63);
        RookHouse here = under("speaks 9 if here=3 and member=1", 1, 0, 0, 0, 0, 0, 0, 1, 0, 0, 0, 0, 0, 0, 3, 0, 9, 0, 0, 0, 0);
        due("\"here\" as now", here.out(0, 1), 2);
        due("AWAY ones are not ON it", awayOne().out(0, 1), 2);
    }

    private static RookHouse awayOne() {
        RookHouse x = house(9, 0, 0, 0, 0, 0, 0, 9, 0, 0, 0, 0, 0, 0, 3, 0, 9, 0, 0, 0, 0);
        x.go(0);
        return x;
    }

    void p29NoMembers() {
        says("The FIRST (no MEMBERS: 0).");
        due("no MEMBERS", new RookHouse().first(), 0);
        RookHouse x = house(1, 0, 0, 0, 0, 0, 9);
        due("one", x.first(), 4);
        x.go(0);
        due("all AWAY", x.first(), 0);
        due("all BARRED", under("bars", 1, 0, 0, 0, 0, 0, 9).first(), 0);
    }

    void p29LowestOfAlikeOnes() {
        says("The FIRST: the BILL with the most POINTS, the lowest of alike ones.");
        due("all alike", house(1, 0, 5, 5, 5, 5, 5).first(), 0);
        due("1 and 2 alike", house(1, 0, 0, 5, 5, 0, 0).first(), 1);
        due("3 and 4 alike", house(1, 0, 0, 1, 2, 5, 5).first(), 3);
        due("one point more", house(2, 0, 0, 0, 0, 9, 0, 3, 0, 0, 0, 0, 0, 9).first(), 4);
    }

    void p30NoSuchMember() {
        says("NONE (no such MEMBER; it is AWAY; there is no such order).");
        RookHouse x = house(THREE);
        due("falsely(1, 0)", x.falsely(1, 0), 1);
        for (int m : new int[] {-1, 3, 7, LOW, HIGH}) {
            none(x, "falsely(" + m + ", 0)", () -> x.falsely(m, 0));
            none(x, "falsely(" + m + ", 1)", () -> x.falsely(m, 1));
        }
        for (int w : new int[] {-1, 6, LOW, HIGH}) {
            none(x, "falsely(1, " + w + ")", () -> x.falsely(1, w));
        }
        RookHouse empty = new RookHouse();
        none(empty, "falsely(0, 0) in an empty house", () -> empty.falsely(0, 0));
    }

    void p30ItIsAway() {
        says("it is AWAY");
        RookHouse x = house(THREE);
        due("HERE", x.falsely(1, 0), 1);
        x.go(1);
        none(x, "falsely(1, 0)", () -> x.falsely(1, 0));
        none(x, "falsely(1, 1)", () -> x.falsely(1, 1));
        x.go(1);
        due("HERE again", x.falsely(1, 0), 1);
    }

    void p30NoSuchOrder() {
        says("there is no such order");
        RookHouse x = house(THREE);
        for (int w = 0; w < 6; w++) {
            int what = w;
            none(x, "falsely(0, " + w + ") of one who has what it wants", () -> x.falsely(0, what));
        }
        RookHouse alike = house(1, 0, 5, 5, 5, 5, 5);
        none(alike, "falsely(0, 0) of one to whom all are alike", () -> alike.falsely(0, 0));
        RookHouse barred = under("bars if member=1", THREE);
        none(barred, "falsely(1, 0) of one who is BARRED", () -> barred.falsely(1, 0));
        RookHouse weak = house(1, 0, 0, 0, 0, 0, 9, 9, 0, 9, 0, 0, 0, 0);
        none(weak, "falsely(0, 0) of one who is too weak", () -> weak.falsely(0, 0));
    }

    void p30FirstOrderByWhichItGains() {
        says("the FIRST would be a BILL it VALUES more than it VALUES the FIRST");
        // Points 0, 8, 6, 0, 8 + 15; by the order told 3, 8, 6, 4, 8.
        RookHouse x = under("speaks bill+1 if member=0", 1, 0, 0, 4, 1, 0, 3, 2, 0, 0, 0, 0, 0, 3);
        due("the FIRST", x.first(), 4);
        int[] told = {1, 1, 0, 2, 3, 4};
        for (int w = 0; w < 6; w++) {
            due("falsely(0, " + w + ")", x.falsely(0, w), told[w]);
        }
        // 0 leads by 8 against 7; it can give 1 more points than it does, but values them alike.
        RookHouse same = house(1, 0, 5, 5, 5, 5, 5, 1, 0, 9, 0, 0, 0, 0);
        due("alike is not more", same.falsely(0, 0), NONE);
    }

    void p30TheLastOfAllOrders() {
        says("FALSELY: of all orders of BILLS the first (as a row of BILLS)");
        // Points 12, 8, 8, 0, 10; 4 is the first only if 0 gets nothing, 1 one at most, 2 two at most.
        RookHouse x = house(2, 0, 4, 3, 4, 2, 5, 2, 0, 5, 4, 3, 1, 2);
        int[] told = {4, 4, 3, 2, 1, 0};
        for (int w = 0; w < 6; w++) {
            due("falsely(0, " + w + ")", x.falsely(0, w), told[w]);
        }
    }

    void p30PointsOfThoseOnItAlone() {
        says("POINTS of a BILL: of all MEMBERS ON it");
        int[] rows = {1, 0, 5, 9, 0, 0, 0, 1, 0, 9, 8, 0, 0, 0};
        RookHouse free = house(rows);
        int[] told = {1, 1, 2, 0, 3, 4};
        for (int w = 0; w < 6; w++) {
            due("falsely(0, " + w + ")", free.falsely(0, w), told[w]);
        }
        RookHouse barred = under("bars if member=0 and bill=1", rows);
        due("the FIRST", barred.first(), 0);
        none(barred, "falsely(0, 0) of one BARRED from what it VALUES most", () -> barred.falsely(0, 0));
    }

    void p30VoicesByTheBill() {
        says("times with how many VOICES it SPEAKS on it");
        // As above, told by the last of four; the two between them give no points, with whatever voices.
        RookHouse x = under("speaks bill+1 if member=3;speaks 9 if member=1 and bill=4", 2, 0, 0, 0, 0, 0, 3, 1, 0, 0, 0, 0, 0, 0,
                1, 0, 0, 0, 0, 0, 0, 1, 0, 0, 4, 1, 0, 3);
        int[] told = {1, 1, 0, 2, 3, 4};
        for (int w = 0; w < 6; w++) {
            due("falsely(3, " + w + ")", x.falsely(3, w), told[w]);
        }
    }

    void p31OneBillAlone() {
        says("SEEN: how often there was. -1 (one BILL alone, too); -5.");
        RookHouse x = one();
        for (int b = 0; b < 5; b++) {
            int bill = b;
            refuses(x, -1, "seen(" + b + ", " + b + ")", () -> x.seen(bill, bill));
        }
        for (int wrong : WRONG) {
            refuses(x, -1, "seen(" + wrong + ", 0)", () -> x.seen(wrong, 0));
            refuses(x, -1, "seen(0, " + wrong + ")", () -> x.seen(0, wrong));
        }
        due("seen(0, 4)", x.seen(0, 4), 1);
        due("seen(4, 0)", x.seen(4, 0), 2);
    }

    void p31SixAtMost() {
        says("SEEN, 6 at most");
        RookHouse x = house(THREE);
        for (int i = 1; i <= 6; i++) {
            due("seen(0, 1)", x.seen(0, 1), i);
        }
        refuses(x, -5, "a seventh", () -> x.seen(1, 0));
        due("it changes nothing", x.canBe(), 5);
        refuses(x, -1, "a number ahead of room", () -> x.seen(0, 5));
        refuses(x, -1, "one BILL alone ahead of room", () -> x.seen(0, 0));
        due("forget()", x.forget(), 6);
        due("room again", x.seen(1, 0), 1);
    }

    void p31TheSixthCounts() {
        says("SEEN, 6 at most");
        RookHouse x = house(THREE);
        for (int i = 0; i < 5; i++) {
            x.seen(0, 1);
        }
        due("five of them", x.canBe(), 5);
        x.seen(2, 0);
        due("six of them", x.canBe(), 4);
    }

    void p31LeavesWhatCanBeUndone() {
        says("It leaves what can be undone.");
        RookHouse x = one();
        x.go(0);
        x.seen(0, 1);
        x.seen(0, 0);
        due("can be undone", x.count(5), 1);
        due("undo()", x.undo(), 1);
        due("SEEN still", x.count(3), 1);
    }

    void p32NothingThen() {
        says("SEEN is nothing then: how often there was.");
        RookHouse x = house(THREE);
        due("nothing was", x.forget(), 0);
        x.seen(1, 0);
        x.seen(3, 4);
        due("canBe()", x.canBe(), 0);
        due("two were", x.forget(), 2);
        due("SEEN", x.count(3), 0);
        due("canBe()", x.canBe(), 7);
        due("again", x.forget(), 0);
        x.seen(2, 1);
        due("a new one alone", x.canBe(), 4);
    }

    void p33NobodyOrAll() {
        says("IT CAN BE, as bits.");
        due("an empty house", new RookHouse().canBe(), 0);
        RookHouse full = seven();
        due("nothing SEEN", full.canBe(), 127);
        full.seen(0, 1);
        due("nobody", full.canBe(), 0);
        full.sway(6, 0, 1);
        due("the seventh", full.canBe(), 64);
    }

    void p33HereOrAway() {
        says("IT CAN BE: MEMBERS, HERE or AWAY, who would vote so at all that was SEEN: BARRED from neither BILL, VALUING the one more.");
        RookHouse x = house(1, 0, 5, 4, 5, 0, 0, 1, 0, 5, 6, 5, 0, 0, 1, 0, 5, 5, 5, 0, 0);
        for (int m = 0; m < 3; m++) {
            x.go(m);
        }
        due("nothing SEEN, all AWAY", x.canBe(), 7);
        x.seen(0, 1);
        due("one more", x.canBe(), 1);
        x.seen(2, 0);
        due("at all that was SEEN", x.canBe(), 0);
        RookHouse one = under("bars if member=0 and bill=0;bars if member=1 and bill=1", 1, 0, 9, 0, 0, 0, 0, 1, 0, 9, 0, 0, 0, 0, 1, 0, 9, 0, 0, 0, 0);
        due("BARRED, nothing SEEN", one.canBe(), 7);
        one.seen(0, 1);
        due("BARRED from either", one.canBe(), 4);
        one.forget();
        one.seen(0, 2);
        due("BARRED from another one", one.canBe(), 6);
    }

    void p34NobodyIsLeft() {
        says("NONE (it can be nobody).");
        RookHouse empty = new RookHouse();
        for (int w = 0; w < 3; w++) {
            int what = w;
            none(empty, "ask(" + w + ") of nobody", () -> empty.ask(what));
        }
        RookHouse x = house(THREE);
        x.seen(3, 4);
        for (int w = 0; w < 3; w++) {
            int what = w;
            none(x, "ask(" + w + ") where it can be nobody", () -> x.ask(what));
        }
    }

    void p34NoSuchWhat() {
        says("To ASK: the one BILL (what 0), the other (1), how many are left at most (2).");
        RookHouse x = house(THREE);
        for (int w : new int[] {-1, 3, LOW, HIGH}) {
            none(x, "ask(" + w + ")", () -> x.ask(w));
        }
        due("ask(0)", x.ask(0), 0);
        due("ask(1)", x.ask(1), 1);
        due("ask(2)", x.ask(2), 2);
    }

    void p34LowestOneThenLowestOther() {
        says("the lowest one, then the lowest other");
        RookHouse alike = seven();
        due("all alike", alike.ask(0) * 100 + alike.ask(1) * 10 + alike.ask(2), 17);
        RookHouse single = one();
        due("one alone", single.ask(0) * 100 + single.ask(1) * 10 + single.ask(2), 11);
        RookHouse last = house(1, 0, 0, 0, 0, 0, 1, 1, 0, 0, 0, 0, 0, 0);
        due("0 and 4", last.ask(0) * 100 + last.ask(1) * 10 + last.ask(2), 41);
        RookHouse far = house(1, 0, 5, 5, 5, 4, 6, 1, 0, 5, 5, 5, 4, 4);
        due("0 and 4 ahead of 3 and 4", far.ask(0) * 100 + far.ask(1) * 10 + far.ask(2), 41);
        RookHouse only = under("bars if not bill>2", 1, 0, 0, 0, 0, 0, 1, 1, 0, 0, 0, 0, 1, 0);
        due("3 and 4 alone", only.ask(0) * 100 + only.ask(1) * 10 + only.ask(2), 341);
    }

    void p34VoteForNeither() {
        says("(for the one, the other, neither)");
        RookHouse x = house(1, 0, 9, 0, 5, 5, 5, 1, 0, 0, 9, 5, 5, 5, 1, 0, 5, 5, 5, 5, 5);
        due("three kinds of 0 and 1", x.ask(2), 1);
        due("0 and 1", x.ask(0) * 10 + x.ask(1), 1);
        RookHouse barred = under("bars if member=2", 1, 0, 9, 0, 5, 5, 5, 1, 0, 0, 9, 5, 5, 5, 1, 0, 9, 0, 5, 5, 5);
        due("BARRED ones vote for neither", barred.ask(2), 1);
        x.go(0);
        x.go(1);
        x.go(2);
        due("AWAY ones, too", x.ask(2), 1);
    }

    private static long few(int k, int n, int dozes) {
        long[] parts = new long[n + 2];
        parts[0] = CERTAIN;
        for (int i = 0; i < n; i++) {
            long[] then = new long[n + 2];
            for (int j = 0; j <= i; j++) {
                then[j] += parts[j] * (10 - dozes) / 10;
                then[j + 1] += parts[j] * dozes / 10;
            }
            parts = then;
        }
        long together = 0;
        for (int j = 0; j < k && j < parts.length; j++) {
            together += parts[j];
        }
        return together;
    }

    private void fewIsNone(int k, int n) {
        RookHouse x = one();
        x.put(9);
        due("few(" + k + ", " + n + ")", x.few(k, n), NONE);
        due("is no refused call", x.count(7), 1);
        due("status()", x.status(), -1);
    }

    void p35FewestTooSmallOrTooLarge() {
        says("FEW, k 1 .. 20, n 0 .. 99. NONE.");
        for (int k : new int[] {0, -1, 21, LOW, HIGH}) {
            fewIsNone(k, 1);
        }
        for (int n : new int[] {-1, 100, LOW, HIGH}) {
            fewIsNone(1, n);
        }
        RookHouse x = new RookHouse();
        for (int k : new int[] {1, 2, 19, 20}) {
            for (int n : new int[] {0, 1, 2, 19, 20, 21, 98, 99}) {
                due("few(" + k + ", " + n + ")", x.few(k, n), few(k, n, 1));
            }
        }
    }

    void p35NobodyDozes() {
        says("1 DOZES 0 .. 10");
        RookHouse x = new RookHouse();
        x.terms(1, 0);
        due("none of 99", x.few(1, 99), CERTAIN);
        x.terms(1, 10);
        due("of nobody", x.few(1, 0), CERTAIN);
        due("all: fewer than 1 of 1", x.few(1, 1), 0);
        due("all: fewer than 20 of 19", x.few(20, 19), CERTAIN);
        due("all: fewer than 20 of 20", x.few(20, 20), 0);
    }

    void p35FewerThanK() {
        says("fewer than k do");
        RookHouse x = new RookHouse();
        due("fewer than 1 of 1", x.few(1, 1), 900000000000L);
        due("fewer than 2 of 1", x.few(2, 1), CERTAIN);
        due("fewer than 2 of 2", x.few(2, 2), 990000000000L);
        due("fewer than 3 of 2", x.few(3, 2), CERTAIN);
        due("fewer than 1 of nobody", x.few(1, 0), CERTAIN);
    }

    void p35BothAreCut() {
        says("each part times the rest by ten and times DOZES by ten (one more), both cut; of those below k all together");
        RookHouse x = new RookHouse();
        due("few(1, 12)", x.few(1, 12), 282429536481L);
        due("few(1, 13)", x.few(1, 13), 254186582832L);
        due("few(20, 13)", x.few(20, 13), few(20, 13, 1));
        due("less than certain by what was cut", x.few(20, 19) < CERTAIN ? 1 : 0, 1);
        for (int dozes = 0; dozes <= 10; dozes++) {
            x.terms(1, dozes);
            due("few(7, 40) by " + dozes, x.few(7, 40), few(7, 40, dozes));
        }
    }

    void p36NoSuchLaw() {
        says("COMPARED. NONE (no such LAW).");
        RookHouse x = house(1, 0, 9, 0, 0, 0, 0);
        none(x, "compare(0) without laws", () -> x.compare(0));
        for (int b = 0; b < 6; b++) {
            law(x, "wants 0;wants 9 if bill=" + b % 5);
            int next = b + 1;
            none(x, "compare(" + next + ")", () -> x.compare(next));
        }
        for (int wrong : new int[] {-2, 6, LOW, HIGH}) {
            none(x, "compare(" + wrong + ")", () -> x.compare(wrong));
        }
        for (int b = 0; b < 6; b++) {
            due("compare(" + b + ")", x.compare(b), b % 5);
        }
    }

    void p36NoneIsNoLaw() {
        says("COMPARED: the FIRST by a LAW in place of that in FORCE (NONE: none).");
        RookHouse x = under("wants bill", 1, 0, 0, 9, 0, 0, 0);
        due("compare(NONE)", x.compare(NONE), 1);
        due("compare(0)", x.compare(0), 4);
        due("first()", x.first(), 4);
        x.force(NONE);
        due("compare(0), not in FORCE", x.compare(0), 4);
        due("not in FORCE still", x.count(12), NONE);
        due("first()", x.first(), 1);
        due("no MEMBERS", new RookHouse().compare(NONE), 0);
    }
}
