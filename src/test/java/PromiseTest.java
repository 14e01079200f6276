/** For each promise ordinary inputs, edges and wrong inputs, with answers reckoned by hand from the document. */
public final class PromiseTest {
    private static final int LOW = Integer.MIN_VALUE;
    private static final int HIGH = Integer.MAX_VALUE;
    private static int wrong = 0;
    private static int promise = 0;

    private static void due(String what, long got, long want) {
        if (got != want) {
            wrong++;
            System.out.println("promise " + promise + ": " + what + " answered " + got + ", due is " + want);
        }
    }

    private static void bytes(RookHouse x, int... bytes) {
        int had = x.count(6);
        for (int i = 0; i < bytes.length; i += 20) {
            int[] n = new int[5];
            for (int j = 0; j < 20 && i + j < bytes.length; j++) {
                n[j / 4] |= bytes[i + j] << (24 - j % 4 * 8);
            }
            x.feed(n[0], n[1], n[2], n[3], n[4]);
        }
        x.end(had + bytes.length);
    }

    private static void text(RookHouse x, String text) {
        bytes(x, text.chars().toArray());
    }

    private static int law(RookHouse x, String text) {
        text(x, text);
        return x.law();
    }

    private static int orders(RookHouse x, String text) {
        text(x, text);
        return x.orders();
    }

    /** A house whose only law, in force, is this one. */
    private static RookHouse under(String law, int... rows) {
        RookHouse x = house(rows);
        due("law " + law, law(x, law), 0);
        x.force(0);
        return x;
    }

    /** Rows of seven: voice, side, five wants. */
    private static RookHouse house(int... rows) {
        RookHouse x = new RookHouse();
        if (rows.length > 0) {
            bytes(x, rows);
            due("row", x.row(), rows.length / 7);
        }
        return x;
    }

    private static void lawFault(String text, int place) {
        RookHouse x = new RookHouse();
        due("law " + text, law(x, text), place < 0 ? 0 : -6);
        due("fault of " + text, x.fault(), place);
        due("tape behind " + text, x.count(6), 0);
    }

    private static void ordersFault(String text, int place) {
        RookHouse x = house(5, 0, 9, 9, 9, 9, 9);
        text(x, text);
        int answer = x.orders();
        due("is refused: " + text, answer == -6 ? 1 : 0, place < 0 ? 0 : 1);
        due("fault of " + text, x.fault(), place);
        due("tape behind " + text, x.count(6), 0);
    }

    private static final int[] THREE = {3, 0, 9, 5, 1, 0, 0, 2, 1, 1, 9, 5, 0, 0, 2, 2, 5, 1, 9, 0, 0};

    private static void newObject() {
        RookHouse x = new RookHouse();
        int[] counts = {0, 0, 0, 0, 0, 0, 0, 0, 0, 0, 0, 0, -1, 0, 1, 0, 0, -1};
        for (int i = 0; i < counts.length; i++) {
            due("count(" + i + ")", x.count(i), counts[i]);
        }
        due("status", x.status(), 0);
        due("fault", x.fault(), -1);
        due("stopped", x.stopped(), -1);
        due("feathers", x.feathers(), 0);
        due("drawn", x.drawn(0, 0), -1);
        due("first", x.first(), 0);
        due("canBe", x.canBe(), 0);
        due("forget", x.forget(), 0);
    }

    private static void member() {
        RookHouse x = new RookHouse();
        for (int[] bad : new int[][] {{0, 0}, {10, 0}, {1, -1}, {1, 4}, {LOW, 0}, {HIGH, HIGH}}) {
            due("member(" + bad[0] + ", " + bad[1] + ")", x.member(bad[0], bad[1]), -1);
        }
        for (int m = 0; m < 7; m++) {
            due("member", x.member(m + 1, m % 4), m);
        }
        due("no room", x.member(9, 3), -5);
        due("a number ahead of room", x.member(10, 3), -1);
        due("voice", x.of(6, 0), 7);
        due("side", x.of(6, 1), 2);
        due("here", x.of(6, 2), 1);
        for (int b = 0; b < 5; b++) {
            due("want", x.of(6, 3 + b), 0);
        }
    }

    private static void of() {
        RookHouse x = house(4, 3, 1, 2, 3, 4, 9);
        int[] row = {4, 3, 1, 1, 2, 3, 4, 9};
        for (int w = 0; w < 8; w++) {
            due("of(0, " + w + ")", x.of(0, w), row[w]);
        }
        x.go(0);
        due("away", x.of(0, 2), 0);
        for (int w : new int[] {-1, 8, LOW, HIGH}) {
            due("of(0, " + w + ")", x.of(0, w), -1);
        }
        due("no member", x.of(1, 0), -1);
        due("no member", x.of(-1, 0), -1);
        due("no refusal", x.count(7), 0);
    }

    private static void asks() {
        RookHouse x = under("speaks want+bill if side=1;wants 20-voice;bars if bill=4", 4, 1, 1, 2, 3, 4, 9, 5, 0, 0, 0, 0, 0, 0);
        due("speaks", x.asks(0, 2, 0), 5);
        due("speaks, the nearest", x.asks(0, 4, 0), 9);
        due("speaks by its voice", x.asks(1, 2, 0), 5);
        due("values, the nearest", x.asks(0, 0, 1), 9);
        due("barred", x.asks(0, 4, 2), 1);
        due("not barred", x.asks(0, 3, 2), 0);
        due("on", x.asks(0, 3, 3), 1);
        due("not on", x.asks(0, 4, 3), 0);
        due("for", x.asks(0, 3, 4), 1);
        due("barred: not for", x.asks(0, 4, 4), 0);
        x.go(0);
        due("away: not on", x.asks(0, 3, 3), 0);
        due("away: not for", x.asks(0, 3, 4), 0);
        due("away: speaks", x.asks(0, 2, 0), 5);
        due("what", x.asks(0, 0, 5), -1);
        due("what", x.asks(0, 0, -1), -1);
        due("bill", x.asks(0, 5, 0), -1);
        due("bill", x.asks(0, -1, 0), -1);
        due("member", x.asks(2, 0, 0), -1);
        RookHouse y = under("wants 0-5;wants 4 if want=5", 4, 0, 5, 7, 0, 0, 0);
        due("the last that holds", y.asks(0, 0, 1), 4);
        due("below", y.asks(0, 1, 1), 0);
        due("4 is not for", y.asks(0, 0, 4), 0);
        due("voice without speaks", y.asks(0, 0, 0), 4);
        y.force(-1);
        due("5 is for", y.asks(0, 0, 4), 1);
    }

    private static void bill() {
        RookHouse x = house(THREE);
        int[] zero = {0, 5, 7, 4, 1, 22};
        int[] three = {0, 0, 7, 4, 0, 0};
        for (int w = 0; w < 6; w++) {
            due("bill(0, " + w + ")", x.bill(0, w), zero[w]);
            due("bill(3, " + w + ")", x.bill(3, w), three[w]);
        }
        x.put(0);
        due("stands", x.bill(0, 0), 1);
        x.terms(3, 6);
        due("needed", x.bill(0, 3), 6);
        due("does not carry", x.bill(0, 4), 0);
        x.terms(3, 5);
        due("carries", x.bill(0, 4), 1);
        for (int w : new int[] {-1, 6, LOW, HIGH}) {
            due("what", x.bill(0, w), -1);
        }
        due("bill", x.bill(5, 0), -1);
        due("bill", x.bill(-1, 0), -1);
        due("half, cut", house(4, 0, 0, 0, 0, 0, 0).bill(0, 3), 3);
        // A bill it is barred from still counts among those it values less.
        RookHouse y = under("bars if bill=1", 2, 0, 5, 1, 0, 0, 0);
        due("points", y.bill(0, 5), 8);
        due("points of a barred one", y.bill(1, 5), 0);
    }

    private static void terms() {
        RookHouse x = new RookHouse();
        int[] most = {999, 10, 9, 99};
        int[] was = {0, 1, 0, 0};
        for (int t = 0; t < 4; t++) {
            due("terms", x.terms(t, most[t]), was[t]);
            due("terms", x.terms(t, most[t] + 1), -1);
            due("terms", x.terms(t, -1), -1);
            due("terms", x.terms(t, 0), most[t]);
            due("count", x.count(13 + t), 0);
        }
        due("terms", x.terms(4, 0), -1);
        due("terms", x.terms(-1, 0), -1);
        due("refusals", x.count(7), 10);
    }

    private static void feed() {
        RookHouse x = new RookHouse();
        due("feed", x.feed(0x05020103, 0x04050600, 0, 0, -1), 20);
        x.end(7);
        due("row", x.row(), 1);
        int[] row = {5, 2, 1, 1, 3, 4, 5, 6};
        for (int w = 0; w < 8; w++) {
            due("of", x.of(0, w), row[w]);
        }
        for (int i = 1; i <= 20; i++) {
            due("feed", x.feed(0, 0, 0, 0, 0), 20 * i);
        }
        due("too many", x.feed(0, 0, 0, 0, 0), -1);
        due("tape", x.count(6), 400);
        x.end(381);
        due("too many", x.feed(0, 0, 0, 0, 0), -1);
        x.end(380);
        due("just enough", x.feed(0, 0, 0, 0, 0), 400);
        due("no refusal", x.count(7), 0);
        due("status", x.status(), 0);
    }

    private static void end() {
        RookHouse x = new RookHouse();
        due("end(0)", x.end(0), 0);
        due("end(1)", x.end(1), -1);
        x.feed(0, 0, 0, 0, 0);
        due("end(21)", x.end(21), -1);
        due("end(-1)", x.end(-1), -1);
        due("end(20)", x.end(20), 20);
        due("end(3)", x.end(3), 3);
        due("end(4)", x.end(4), -1);
        due("tape", x.count(6), 3);
        due("feed", x.feed(0, 0, 0, 0, 0), 23);
        due("no refusal", x.count(7), 0);
    }

    private static void row() {
        RookHouse x = new RookHouse();
        due("empty", x.row(), -6);
        bytes(x, 1, 0, 0, 0, 0, 0, 0, 0, 0, 0, 0, 0, 0, 0, 10, 0, 0, 0, 0, 0, 0, 9, 3, 9, 9, 9, 9, 9, 1, 4, 0, 0, 0, 0, 0,
                1, 0, 0, 0, 0, 0, 10, 255, 0, 0, 0, 0, 0, 0, 1, 0, 0, 0, 0, 0);
        due("row", x.row(), 2);
        due("feathers", x.feathers(), 6);
        due("tape", x.count(6), 0);
        due("members", x.count(0), 2);
        due("second", x.of(1, 7), 9);
        bytes(x, 1);
        due("nobody came", x.row(), 0);
        due("status", x.status(), 0);
        for (int m = 2; m < 6; m++) {
            x.member(1, 1);
        }
        bytes(x, 2, 0, 0, 0, 0, 0, 0, 3, 0, 0, 0, 0, 0, 0);
        due("room for one", x.row(), 1);
        due("feathers", x.feathers(), 1);
        due("the seventh", x.of(6, 0), 2);
    }

    private static void feathers() {
        RookHouse x = new RookHouse();
        due("ahead of any", x.feathers(), 0);
        bytes(x, 0, 0, 0, 0, 0, 0, 0, 1);
        x.row();
        due("feathers", x.feathers(), 2);
        x.row();
        due("behind a refused one", x.feathers(), 2);
        x.image(0);
        bytes(x, 1, 1, 1, 1, 1, 1, 1);
        x.row();
        due("none", x.feathers(), 0);
        x.back(0);
        due("images do not keep it", x.feathers(), 0);
    }

    private static void law() {
        lawFault("speaks 1", -1);
        lawFault("bars", -1);
        lawFault("  wants  want*2 if not(day<3 or mood>2 and side=0)and here>1 ", -1);
        lawFault("speaks[[[[[[[[1]]]]]]]]", -1);
        lawFault("speaks[[[[[[[[[1]]]]]]]]]", 14);
        lawFault("bars if((((((([1]=1)))))))", -1);
        lawFault("bars if((((((([[1]]=1)))))))", 15);
        lawFault("bars if((((((((([1]=1)))))))))", 15);
        lawFault("bars if " + "(1=1)and".repeat(9) + "(1=1)", -1);
        lawFault("bars;".repeat(11) + "bars", -1);
        lawFault("bars;".repeat(12) + " bars", 61);
        lawFault("bars;".repeat(12) + " ", 61);
        lawFault("bars;".repeat(11) + "bars x", 60);
        lawFault("speaks 1" + "+1".repeat(49), -1);
        lawFault("speaks 1" + "+1".repeat(50), 107);
        lawFault("speaks 1" + "+1".repeat(24) + ";speaks 1" + "+[1]".repeat(24), -1);
        lawFault("speaks 1" + "+1".repeat(24) + ";speaks 1" + "+[1]".repeat(24) + "+[day]", 163);
        lawFault("speaks 1000", -1);
        lawFault("speaks 1001", 7);
        lawFault("speaks 0001000", -1);
        lawFault("speaks 99999999999999999999", 7);
        lawFault("bars if " + "not ".repeat(90) + "1=1", -1);
        lawFault("", 0);
        lawFault("   ", 3);
        lawFault("bars;", 5);
        lawFault(";bars", 0);
        lawFault("Bars", 0);
        lawFault("barsif 1=1", 0);
        lawFault("barsz", 0);
        lawFault("bars`", 4);
        lawFault("bars{", 4);
        lawFault("speaks 1/1:", 10);
        lawFault("bars if1=1", -1);
        lawFault("bars if 1=1=1", 11);
        lawFault("bars if (1=1", 12);
        lawFault("bars if [1=1]", 10);
        lawFault("bars if (1)=1", 10);
        lawFault("speaks (1)", 7);
        lawFault("speaks -1", 7);
        lawFault("speaks 1 2", 9);
        lawFault("speaks done", 7);
        lawFault("speaks for 1", 7);
        lawFault("speaks voice 1", 13);
        lawFault("wants want wants", 11);
        lawFault("bars times 2", 5);
        lawFault("bars\tif 1=1", 4);
        lawFault("put 1", 0);
        lawFault("bars if 1<1 or", 14);
        lawFault("bars if not", 11);
        lawFault("bars if 1", 9);
        lawFault("speaks [1", 9);
        lawFault("speaks 1)", 8);
    }

    private static void lawRoom() {
        RookHouse x = house(1, 0, 0, 0, 0, 0, 0);
        x.go(0);
        for (int i = 0; i < 6; i++) {
            due("law", law(x, "speaks " + i), i);
        }
        due("it leaves what can be undone", x.count(5), 1);
        due("no room", law(x, "nonsense"), -5);
        due("status", x.status(), -5);
        due("tape", x.count(6), 0);
        due("not read", x.fault(), -1);
        due("laws", x.count(4), 6);
        due("not in force", x.count(12), -1);
    }

    private static void lawMeaning() {
        int[] row = {4, 2, 1, 2, 3, 4, 5, 2, 1, 0, 0, 0, 0, 0};
        String[] words = {"member", "voice", "side", "bill", "want", "here", "day", "mood", "stands"};
        int[] told = {0, 4, 2, 3, 4, 2, 6, 7, 0};
        for (int i = 0; i < words.length; i++) {
            RookHouse x = under("speaks " + words[i], row);
            x.terms(0, 6);
            x.terms(2, 7);
            due(words[i], x.asks(0, 3, 0), told[i]);
        }
        RookHouse s = under("speaks stands*3+6;wants 9", row);
        due("does not stand", s.asks(0, 0, 0), 6);
        due("put", s.put(0), 12);
        due("stands", s.asks(0, 0, 0), 9);
        RookHouse h = under("speaks here", row);
        h.go(1);
        due("here, one away", h.asks(0, 0, 0), 1);
        due("here, asked of one away", h.asks(1, 0, 0), 1);
        String[] sums = {"2+3*2", "[2+1]*3", "17%5", "17/5", "9-2-3", "8/2/2", "20/3*3/3", "[0-17]/5+5", "[0-17]%5+5", "1+17%[0-5]"};
        int[] values = {8, 9, 2, 3, 4, 2, 6, 2, 3, 3};
        for (int i = 0; i < sums.length; i++) {
            due(sums[i], under("speaks " + sums[i], row).asks(0, 0, 0), values[i]);
        }
        String[] broken = {"1/0", "1%0", "1000*1000*1000+1", "0-1000*1000*1000-1", "1000*1000*1000*2", "1000*1000*1000*0*1/0", "0*[1000*1000*1000*2]"};
        for (String sum : broken) {
            due(sum, under("speaks 7;speaks " + sum, row).asks(0, 0, 0), 7);
            due(sum, under("bars if " + sum + "=0 or 1=1", row).asks(0, 0, 2), 0);
            due(sum, under("bars if not " + sum + "=0", row).asks(0, 0, 2), 0);
            due(sum, under("bars if 1=1 or " + sum + "=0", row).asks(0, 0, 2), 1);
            due(sum, under("bars if 1=2 and " + sum + "=0 or 2=2", row).asks(0, 0, 2), 1);
            due(sum, under("bars if 1=1 and " + sum + "=0", row).asks(0, 0, 2), 0);
        }
        due("just not broken", under("speaks 7;speaks 1000*1000*1000/1000/1000/500", row).asks(0, 0, 0), 2);
        due("just not broken", under("speaks 7;speaks [0-1000*1000*1000]/1000/1000/500+4", row).asks(0, 0, 0), 2);
        String[] tests = {"1<2", "2<2", "2>1", "2>2", "2=2", "not 1=1", "not not 1=1", "1=1 or 1=1 and 1=2", "(1=1 or 1=1)and 1=2",
            "not 1=2 and 1=2", "not(1=2 and 1=2)", "1=2 or 1=2 or 1=1", "1=1 and 1=1 and 1=2"};
        int[] so = {1, 0, 1, 0, 1, 0, 1, 1, 0, 0, 1, 1, 0};
        for (int i = 0; i < tests.length; i++) {
            due(tests[i], under("bars if " + tests[i], row).asks(0, 0, 2), so[i]);
        }
        due("one bars is enough", under("bars if bill=0;bars if bill=1", row).asks(0, 0, 2), 1);
        due("a broken sum's last one", under("speaks 3;speaks 4 if 1=2", row).asks(0, 0, 0), 3);
    }

    private static void orders() {
        ordersFault("pass", -1);
        ordersFault("put 0 times 20 if for 4>0 and voice 6<0", -1);
        ordersFault("sway 0 on 4 to 3", -1);
        ordersFault("pass;".repeat(11) + "pass", -1);
        ordersFault("pass;".repeat(12) + "pass", 60);
        ordersFault("pass;".repeat(12), 60);
        ordersFault("go 0*[for 1" + "+voice 1".repeat(40) + "]", -1);
        ordersFault("put 0" + "*day".repeat(49), -1);
        ordersFault("put 0" + "*day".repeat(50), 202);
        ordersFault("pass times 3;put 0" + "*day".repeat(49), -1);
        ordersFault("put 0" + "*day".repeat(49) + "*for 9", 202);
        ordersFault("", 0);
        ordersFault("  ", 2);
        ordersFault("pass times 0", 11);
        ordersFault("pass times 21", 11);
        ordersFault("pass times 020", -1);
        ordersFault("pass times [1]", 11);
        ordersFault("pass times day", 11);
        ordersFault("pass if 1=1 times 2", 12);
        ordersFault("pass times 2 times 2", 13);
        ordersFault("put for 5", 8);
        ordersFault("put for [1]", 8);
        ordersFault("put voice 7", 10);
        ordersFault("put voice", 9);
        ordersFault("put bill", 4);
        ordersFault("put want", 4);
        ordersFault("go", 2);
        ordersFault("sway 0 to 1 on 2", 7);
        ordersFault("sway 0 on 1 on 2", 12);
        ordersFault("sway 0 on 1", 11);
        ordersFault("pass 1", 5);
        ordersFault("speaks 1", 0);
        ordersFault("bars", 0);
        ordersFault("put 1001", 4);
        RookHouse x = house(5, 0, 9, 9, 0, 0, 0, 3, 0, 0, 9, 0, 0, 0);
        due("orders", orders(x, "put 0;put 1 if latest=5;go 1 if for 1=8;pass if here=1 and standing=2;sway 1 on done to voice 0+day-1"), 5);
        due("stand", x.count(2), 3);
        due("day", x.count(13), 1);
        due("wants", x.of(1, 3 + 4), 5);
        due("here", x.count(1), 2);
        due("undone", x.count(5), 5);
        due("latest ahead of a put", orders(x, "pass if latest=0-1 and done=0"), 1);
        due("times", orders(x, "pass times 3 if done<2"), 2);
        due("day", x.count(13), 4);
        due("broken if", orders(x, "pass if 1/0=1"), 0);
        due("stopped", x.stopped(), -1);
        due("voice of nobody", orders(x, "go voice 2+1"), 1);
        due("here", x.of(0, 2), 0);
    }

    private static void ordersAllOrNothing() {
        RookHouse x = house(5, 0, 9, 9, 0, 0, 0, 3, 0, 0, 9, 0, 0, 0);
        x.sway(0, 3, 7);
        String[] last = {"put 2", "put 5", "put 0-1", "go 2", "sway 0 on 0 to 0", "sway 0 on 5 to 1", "sway 0 on 0 to 10",
            "sway 2 on 0 to 1", "go 1/0", "sway 0 on 0 to 1%0", "pass times 20"};
        x.terms(0, 990);
        x.go(1);
        for (String one : last) {
            due(one, orders(x, "pass;put 0;sway 0 on 0 to 0;" + one), -3);
            due("stopped at " + one, x.stopped(), 3);
            due("status", x.status(), -3);
            due("fault", x.fault(), -1);
            due("day", x.count(13), 990);
            due("stand", x.count(2), 0);
            due("want", x.of(0, 3), 9);
            due("here", x.of(1, 2), 0);
            due("can be undone", x.count(5), 1);
        }
        due("refused once each", x.count(9), last.length);
        due("undo", x.undo(), 1);
        for (int i = 0; i < 16; i++) {
            x.go(0);
        }
        due("the past comes back whole", orders(x, "go 1 times 17;go 7"), -3);
        for (int i = 0; i < 16; i++) {
            due("undo", x.undo(), 1);
            due("member 0", x.of(0, 2), i % 2 == 0 ? 0 : 1);
        }
        due("no more", x.undo(), -3);
        due("not run, not asked", orders(x, "go 1/0 if 1=2"), 0);
        due("ends at the first", orders(x, "go 9;go 1/0"), -3);
        due("stopped", x.stopped(), 0);
    }

    private static void fault() {
        RookHouse x = house(1, 0, 0, 0, 0, 0, 0);
        due("none", x.fault(), -1);
        law(x, "bars 1");
        due("fault", x.fault(), 5);
        orders(x, "pass;x");
        due("fault", x.fault(), 5);
        orders(x, "go 5");
        due("none", x.fault(), -1);
        law(x, "x");
        due("fault", x.fault(), 0);
        law(x, "bars");
        due("none", x.fault(), -1);
        x.image(0);
        law(x, " x");
        x.back(0);
        due("images do not keep it", x.fault(), 1);
    }

    private static void stopped() {
        RookHouse x = house(1, 0, 0, 0, 0, 0, 0);
        orders(x, "pass;pass;put 0");
        due("stopped", x.stopped(), 2);
        law(x, "bars");
        x.image(0);
        x.back(0);
        due("still", x.stopped(), 2);
        orders(x, "pass");
        due("none", x.stopped(), -1);
        orders(x, "put 0");
        due("stopped", x.stopped(), 0);
        orders(x, "?");
        due("none", x.stopped(), -1);
    }

    private static void force() {
        RookHouse x = house(1, 0, 0, 0, 0, 0, 0);
        due("none", x.force(-1), -1);
        due("not refused", x.status(), 0);
        due("no law", x.force(0), -2);
        due("no law", x.force(-2), -2);
        law(x, "speaks 8");
        law(x, "speaks 9");
        x.go(0);
        due("force", x.force(1), -1);
        due("speaks", x.asks(0, 0, 0), 9);
        due("force", x.force(0), 1);
        due("speaks", x.asks(0, 0, 0), 8);
        due("no law", x.force(2), -2);
        due("in force", x.count(12), 0);
        due("undone", x.count(5), 1);
        due("force", x.force(-1), 0);
        due("speaks", x.asks(0, 0, 0), 1);
    }

    private static void put() {
        RookHouse x = house(THREE);
        due("put", x.put(0), 5);
        due("stands", x.bill(0, 0), 1);
        due("put", x.put(0), 5);
        due("no more", x.bill(0, 0), 0);
        due("does not carry", x.put(3), -3);
        due("bill", x.put(5), -1);
        due("bill", x.put(-1), -1);
        due("status", x.status(), -1);
        x.terms(3, 99);
        due("needed", x.put(0), -3);
    }

    private static void go() {
        RookHouse x = house(THREE);
        due("go", x.go(2), 0);
        due("away", x.count(1), 2);
        due("come", x.go(2), 1);
        due("here", x.count(1), 3);
        due("nobody", x.go(3), -2);
        due("nobody", x.go(-1), -2);
        due("refusals", x.count(8), 2);
    }

    private static void sway() {
        RookHouse x = house(THREE);
        due("sway", x.sway(0, 0, 0), 9);
        due("want", x.of(0, 3), 0);
        due("it is so", x.sway(0, 0, 0), -3);
        due("bill", x.sway(9, 5, 0), -1);
        due("want", x.sway(9, 0, 10), -1);
        due("want", x.sway(0, 0, -1), -1);
        due("member", x.sway(3, 0, 0), -2);
        due("member", x.sway(-1, 0, 9), -2);
        due("one away", x.go(0) + x.sway(0, 4, 9), 0);
    }

    private static void pass() {
        RookHouse x = house(THREE);
        x.go(0);
        x.go(2);
        due("pass", x.pass(), 2);
        due("here", x.count(1), 3);
        due("day", x.count(13), 1);
        due("nobody came", x.pass(), 0);
        x.terms(0, 998);
        due("pass", x.pass(), 0);
        x.go(0);
        due("no more days", x.pass(), -3);
        due("away still", x.count(1), 2);
    }

    private static void undo() {
        RookHouse x = house(THREE);
        due("none", x.undo(), -3);
        x.go(1);
        x.sway(1, 2, 0);
        x.put(0);
        x.pass();
        x.force(-1);
        x.seen(0, 1);
        law(x, "bars");
        x.image(0);
        x.forget();
        x.member(0, 0);
        x.terms(9, 9);
        x.row();
        x.back(1);
        due("can be", x.count(5), 4);
        due("pass", x.undo(), 3);
        due("day", x.count(13), 0);
        due("away", x.of(1, 2), 0);
        due("put", x.undo(), 0);
        due("stands", x.count(2), 0);
        due("sway", x.undo(), 2);
        due("want", x.of(1, 5), 5);
        due("go", x.undo(), 1);
        due("here", x.of(1, 2), 1);
        due("none", x.undo(), -3);
        for (int i = 0; i < 20; i++) {
            x.sway(0, 4, 1 + i % 9);
        }
        due("16", x.count(5), 16);
        for (int i = 0; i < 16; i++) {
            due("sway", x.undo(), 2);
        }
        due("none", x.undo(), -3);
        due("want", x.of(0, 7), 4);
        x.go(0);
        x.member(1, 0);
        due("member", x.undo(), -3);
        x.go(0);
        x.terms(2, 0);
        due("terms", x.undo(), -3);
        x.go(0);
        bytes(x, 0);
        x.row();
        due("row", x.undo(), -3);
        x.go(0);
        x.back(0);
        due("back", x.undo(), -3);
        x.go(0);
        due("a new one", x.undo(), 1);
    }

    private static void votes() {
        RookHouse x = house(THREE);
        due("votes", x.votes(0, 1), 5);
        due("votes", x.votes(1, 0), 2);
        due("alike", x.votes(3, 4), 0);
        due("one bill", x.votes(2, 2), -1);
        due("bill", x.votes(0, 5), -1);
        due("bill", x.votes(-1, 0), -1);
        x.go(2);
        due("without one away", x.votes(0, 1), 3);
        RookHouse y = under("speaks bill+1;bars if bill=2 and member=0", THREE);
        due("voices on the first", y.votes(0, 1), 2);
        due("voices on the first", y.votes(1, 0), 2);
        due("on both", y.votes(0, 2), 0);
        due("on both", y.votes(2, 0), 6);
    }

    private static void best() {
        due("a ring", house(THREE).best(), -1);
        due("nobody", new RookHouse().best(), -1);
        RookHouse x = house(1, 0, 1, 2, 3, 9, 4);
        due("best", x.best(), 3);
        x.sway(0, 4, 9);
        due("alike", x.best(), -1);
    }

    private static void rings() {
        RookHouse x = house(THREE);
        due("a ring", x.rings(), 1);
        x.sway(0, 2, 9);
        due("none", x.rings(), 0);
        // 0 > 1 > 2 > 0 in the one way, 0 < 3 < 4 < 0 in the other
        RookHouse y = house(1, 0, 4, 3, 2, 1, 0, 1, 0, 0, 4, 3, 2, 1, 1, 0, 1, 0, 4, 3, 2, 1, 0, 2, 1, 0, 4, 3, 1, 0, 3, 2, 1, 0, 4);
        due("five in a circle", y.rings(), 5);
    }

    private static void agenda() {
        RookHouse x = house(THREE);
        int[] first = {40, 1, 2, 0, 3, 4, -1};
        for (int w = 0; w < 7; w++) {
            due("agenda(0, " + w + ")", x.agenda(0, w), first[w]);
        }
        due("never", x.agenda(3, 0), -1);
        due("never", x.agenda(3, 1), -1);
        due("what", x.agenda(0, -1), -1);
        due("bill", x.agenda(5, 0), -1);
        due("bill", x.agenda(-1, 0), -1);
        due("all are alike", new RookHouse().agenda(4, 0), 24);
        due("its first", new RookHouse().agenda(4, 1), 4);
        due("its first", new RookHouse().agenda(4, 5), 3);
        due("the best wins always", house(1, 0, 1, 2, 3, 9, 4).agenda(3, 0), 120);
    }

    private static void power() {
        RookHouse x = house(5, 0, 0, 0, 0, 0, 0, 3, 0, 0, 0, 0, 0, 0, 1, 0, 0, 0, 0, 0, 0);
        due("all of it", x.power(0, 0), 4);
        due("none of it", x.power(1, 0), 0);
        x.terms(3, 6);
        due("needed", x.power(0, 0), 3);
        due("needed", x.power(1, 0), 1);
        x.go(0);
        due("away", x.power(0, 0), 0);
        due("nobody", x.power(3, 0), -1);
        due("bill", x.power(0, 5), -1);
        due("bill", x.power(0, -1), -1);
        RookHouse y = new RookHouse();
        for (int m = 0; m < 7; m++) {
            y.member(1, 0);
        }
        due("seven alike", y.power(6, 4), 20);
        due("barred", under("bars", 1, 0, 0, 0, 0, 0, 0).power(0, 0), 0);
    }

    private static void pivot() {
        RookHouse x = house(5, 0, 0, 0, 0, 0, 0, 3, 0, 0, 0, 0, 0, 0, 1, 0, 0, 0, 0, 0, 0);
        due("all of it", x.pivot(0, 0), 6);
        due("none of it", x.pivot(1, 0), 0);
        x.terms(3, 6);
        due("needed", x.pivot(0, 0), 4);
        due("needed", x.pivot(2, 0), 1);
        x.go(0);
        due("away", x.pivot(0, 0), 0);
        due("nobody", x.pivot(3, 0), -1);
        due("bill", x.pivot(0, 5), -1);
        RookHouse y = new RookHouse();
        for (int m = 0; m < 7; m++) {
            y.member(1, 0);
        }
        due("seven alike", y.pivot(6, 4), 720);
    }

    private static void enough() {
        RookHouse x = house(1, 0, 0, 0, 0, 0, 0, 2, 0, 0, 0, 0, 0, 0, 2, 0, 0, 0, 0, 0, 0, 2, 0, 0, 0, 0, 0, 0);
        due("4 of 7", x.enough(0, 0), 2);
        due("the lowest", x.enough(0, 1), 6);
        x.terms(3, 5);
        due("three", x.enough(0, 0), 3);
        due("who", x.enough(0, 1), 7);
        x.terms(3, 8);
        due("all are not", x.enough(0, 0), -1);
        due("all are not", x.enough(0, 1), -1);
        due("what", x.enough(0, 2), -1);
        due("what", x.enough(0, -1), -1);
        due("bill", x.enough(5, 0), -1);
        due("bill", x.enough(-1, 0), -1);
    }

    private static void out() {
        RookHouse x = house(1, 0, 9, 0, 0, 0, 0, 2, 0, 0, 0, 0, 0, 0, 2, 0, 0, 0, 0, 0, 0, 2, 0, 5, 0, 0, 0, 0);
        due("two of four", x.out(0, 0), 1);
        due("who", x.out(0, 1), 2);
        due("can't be", x.out(1, 0), -1);
        due("can't be", x.out(1, 1), -1);
        x.go(1);
        due("it carries", x.out(0, 0), 0);
        due("nobody", x.out(0, 1), 0);
        x.terms(3, 4);
        due("needed", x.out(0, 0), -1);
        due("what", x.out(0, 2), -1);
        due("bill", x.out(5, 0), -1);
        due("bill", x.out(-1, 0), -1);
        RookHouse y = under("wants 9 if here=1;speaks here", 1, 0, 5, 0, 0, 0, 0, 1, 0, 0, 0, 0, 0, 0);
        due("here as now", y.out(0, 1), 2);
        due("here as now", y.out(1, 0), -1);
    }

    private static void first() {
        RookHouse x = house(THREE);
        due("first", x.first(), 0);
        x.sway(1, 0, 0);
        x.sway(1, 3, 1);
        due("first", x.first(), 1);
        due("no members", new RookHouse().first(), 0);
        due("lowest of alike ones", house(1, 0, 0, 5, 5, 0, 0).first(), 1);
    }

    private static void falsely() {
        RookHouse x = house(THREE);
        int[] told = {1, 1, 2, 3, 0, 4, -1};
        for (int w = 0; w < 7; w++) {
            due("falsely(1, " + w + ")", x.falsely(1, w), told[w]);
        }
        due("it has the best", x.falsely(0, 0), -1);
        due("what", x.falsely(1, -1), -1);
        due("nobody", x.falsely(3, 0), -1);
        due("nobody", x.falsely(-1, 0), -1);
        x.go(1);
        due("away", x.falsely(1, 0), -1);
        RookHouse y = under("bars if member=1", THREE);
        due("barred from all", y.falsely(1, 0), -1);
        // Points 0, 8, 6, 0, 8 + 15; by the order told 3, 8, 6, 4, 8.
        RookHouse z = under("speaks bill+1 if member=0", 1, 0, 0, 4, 1, 0, 3, 2, 0, 0, 0, 0, 0, 3);
        due("first", z.first(), 4);
        int[] row = {1, 1, 0, 2, 3, 4};
        for (int w = 0; w < 6; w++) {
            due("falsely(0, " + w + ")", z.falsely(0, w), row[w]);
        }
    }

    private static void seen() {
        RookHouse x = house(THREE);
        x.go(0);
        due("one bill", x.seen(1, 1), -1);
        due("bill", x.seen(5, 0), -1);
        due("bill", x.seen(0, -1), -1);
        for (int i = 1; i <= 6; i++) {
            due("seen", x.seen(0, 1), i);
        }
        due("no room", x.seen(0, 1), -5);
        due("a number first", x.seen(0, 0), -1);
        due("it leaves what can be undone", x.count(5), 1);
    }

    private static void forget() {
        RookHouse x = house(THREE);
        x.seen(1, 0);
        x.seen(1, 2);
        x.put(9);
        due("forget", x.forget(), 2);
        due("forget", x.forget(), 0);
        due("canBe", x.canBe(), 7);
        due("status is not its", x.status(), -1);
    }

    private static void canBe() {
        RookHouse x = house(THREE);
        due("all", x.canBe(), 7);
        x.go(0);
        x.seen(0, 1);
        due("away, too", x.canBe(), 5);
        x.seen(2, 0);
        due("both", x.canBe(), 4);
        x.seen(3, 4);
        due("nobody", x.canBe(), 0);
        RookHouse y = under("bars if bill=1 and member=0", THREE);
        y.seen(0, 1);
        due("not barred", y.canBe(), 4);
        y.forget();
        y.seen(0, 2);
        due("from these", y.canBe(), 1);
    }

    private static void ask() {
        RookHouse x = house(THREE);
        due("one", x.ask(0), 0);
        due("other", x.ask(1), 1);
        due("left", x.ask(2), 2);
        x.seen(0, 1);
        due("one", x.ask(0), 0);
        due("other", x.ask(1), 2);
        due("left", x.ask(2), 1);
        due("what", x.ask(3), -1);
        due("what", x.ask(-1), -1);
        x.seen(3, 4);
        due("nobody", x.ask(0), -1);
        RookHouse y = under("bars if bill=0 and member=0", THREE);
        due("for the one, the other, neither", y.ask(2), 1);
        due("lowest", y.ask(0) * 10 + y.ask(1), 1);
        RookHouse z = house(1, 0, 0, 0, 0, 0, 0, 1, 0, 0, 0, 0, 0, 1);
        due("the lowest one, then other", z.ask(0) * 10 + z.ask(1), 4);
    }

    private static void few() {
        RookHouse x = new RookHouse();
        due("few(1, 0)", x.few(1, 0), 1000000000000L);
        due("few(1, 1)", x.few(1, 1), 900000000000L);
        due("few(1, 12)", x.few(1, 12), 282429536481L);
        due("few(1, 13), cut", x.few(1, 13), 254186582832L);
        due("few(3, 3)", x.few(3, 3), 999000000000L);
        x.terms(1, 10);
        due("all doze", x.few(1, 1), 0);
        due("all doze", x.few(20, 19), 1000000000000L);
        due("all doze", x.few(20, 20), 0);
        x.terms(1, 0);
        due("none dozes", x.few(1, 99), 1000000000000L);
        for (int[] bad : new int[][] {{0, 1}, {21, 1}, {1, -1}, {1, 100}, {LOW, 0}, {1, HIGH}}) {
            due("few", x.few(bad[0], bad[1]), -1);
        }
        due("no refusal", x.count(7), 0);
    }

    private static void compare() {
        RookHouse x = under("wants 9-want;speaks 1", THREE);
        due("another one", law(x, "wants bill"), 1);
        due("that in force", x.compare(0), x.first());
        due("that in force", x.compare(0), 3);
        due("another one", x.compare(1), 4);
        due("none", x.compare(-1), 0);
        due("no such", x.compare(2), -1);
        due("no such", x.compare(-2), -1);
        due("in force still", x.count(12), 0);
    }

    private static void sessions() {
        RookHouse x = new RookHouse();
        due("no members", x.sessions(0, 1), -3);
        due("seed", x.sessions(-1, 1), -1);
        due("seed", x.sessions(1000001, 1), -1);
        due("n", x.sessions(0, 0), -1);
        due("n", x.sessions(0, 61), -1);
        x = house(THREE);
        x.go(1);
        // The draws of 15: member 0, bill 2, want 7, and 0: it is swayed.
        due("sessions", x.sessions(15, 1), 0);
        due("want", x.drawn(0, 4), 7);
        due("all here behind the day", x.drawn(1, 1), 1);
        due("on paper", x.of(0, 5), 1);
        due("on paper", x.of(1, 2), 0);
        due("on paper", x.count(13), 0);
        due("can be undone", x.count(5), 1);
        // Of 24: bill 0 and 2, of 36: bill 3 and 2, of 1: bill 2 and 3, which carries if member 1 is here.
        due("put", x.sessions(24, 1), 1);
        due("stands", x.drawn(0, 0), 1);
        due("does not carry", x.sessions(36, 1), 0);
        due("does not carry", x.sessions(1, 1), 0);
        x.go(1);
        due("put", x.sessions(1, 1), 1);
        due("stands", x.drawn(2, 0), 1);
        x.go(1);
        // Of 0: member 0 goes, and is here again behind the day.
        due("it goes", x.sessions(0, 1), 0);
        due("it comes", x.drawn(0, 1), 1);
        x.terms(0, 999);
        due("the last day", x.sessions(15, 60), 0);
        due("nothing came of it", x.drawn(0, 4), 1);
        due("away still", x.drawn(1, 1), 0);
        x.terms(0, 998);
        x.sessions(15, 60);
        due("one alone", x.drawn(0, 4), 7);
        due("one alone", x.drawn(1, 1), 1);
        due("seed", x.sessions(1000000, 60) >= 0 ? 1 : 0, 1);
    }

    private static void drawn() {
        RookHouse x = house(THREE);
        due("ahead of any", x.drawn(0, 0), -1);
        x.put(0);
        x.image(0);
        x.sessions(15, 1);
        int[] zero = {1, 1, 9, 5, 7, 0, 0, -1};
        for (int w = 0; w < 8; w++) {
            due("drawn(0, " + w + ")", x.drawn(0, w), zero[w]);
        }
        due("bill", x.drawn(4, 0), 0);
        due("bill", x.drawn(5, 0), -1);
        due("bill", x.drawn(-1, 0), -1);
        due("member", x.drawn(3, 1), -1);
        due("member", x.drawn(3, 2), -1);
        due("what", x.drawn(0, -1), -1);
        due("what", x.drawn(0, LOW), -1);
        x.member(1, 1);
        due("as it was then", x.drawn(3, 1), -1);
        x.sessions(0, 0);
        due("a refused one changes nothing", x.drawn(0, 4), 7);
        x.back(0);
        due("images do not keep it", x.drawn(0, 4), 7);
    }

    private static void imageAndBack() {
        RookHouse x = house(THREE);
        law(x, "speaks 7");
        x.force(0);
        x.seen(0, 1);
        x.terms(3, 9);
        x.put(0);
        promise = 39;
        due("image", x.image(1), 0);
        due("image", x.image(2), -1);
        due("image", x.image(-1), -1);
        promise = 40;
        due("not kept", x.back(0), -2);
        due("number", x.back(2), -1);
        due("number", x.back(-1), -1);
        due("image", x.image(0), 0);
        law(x, "speaks 1");
        x.force(1);
        x.forget();
        x.terms(3, 1);
        x.terms(0, 50);
        x.terms(1, 5);
        x.terms(2, 5);
        x.member(1, 1);
        x.go(0);
        x.sway(0, 0, 0);
        x.put(1);
        text(x, "bars");
        int refused = x.count(7);
        due("back", x.back(0), 0);
        int[] counts = {3, 3, 1, 1, 1, 0, 4, refused, 1, 0, 0, 0, 0, 0, 1, 0, 9, -1};
        for (int i = 0; i < counts.length; i++) {
            due("count(" + i + ")", x.count(i), counts[i]);
        }
        due("the tape stays", x.law(), 1);
        due("want", x.of(0, 3), 9);
        due("speaks", x.asks(0, 0, 0), 7);
        due("canBe", x.canBe(), 5);
        x.forget();
        x.seen(2, 1);
        x.back(0);
        due("what was seen then", x.canBe(), 5);
        x.member(1, 1);
        due("again", x.back(0), 0);
        due("members", x.count(0), 3);
        law(x, "speaks 3");
        x.force(1);
        due("another law 1", x.asks(0, 0, 0), 3);
        due("images stay", x.back(1), 0);
        due("its law", x.asks(0, 0, 0), 7);
    }

    private static void count() {
        RookHouse x = house(THREE);
        x.member(0, 0);
        x.go(9);
        x.go(9);
        x.put(4);
        x.put(4);
        x.put(4);
        for (int i = 0; i < 10; i++) {
            x.seen(1, 2);
        }
        for (int i = 0; i < 5; i++) {
            x.row();
        }
        x.terms(0, 3);
        x.terms(1, 4);
        x.terms(2, 5);
        x.terms(3, 6);
        x.go(1);
        text(x, "bars");
        int[] counts = {3, 2, 0, 6, 0, 1, 4, 1, 2, 3, 4, 5, -1, 3, 4, 5, 6, -1};
        for (int i = 0; i < counts.length; i++) {
            due("count(" + i + ")", x.count(i), counts[i]);
        }
        due("what", x.count(-1), -1);
        due("what", x.count(LOW), -1);
        due("what", x.count(HIGH), -1);
    }

    private static void status() {
        RookHouse x = house(THREE);
        due("row", x.status(), 0);
        due("go", x.go(7) + x.status(), -4);
        due("go", x.go(0) + x.status(), 0);
        due("put", x.put(7) + x.status(), -2);
        x.of(9, 9);
        x.end(900);
        x.few(0, 0);
        x.compare(9);
        x.votes(1, 1);
        due("others leave it", x.status(), -1);
        due("pass", x.pass() + x.status(), 1);
        due("undo", x.undo() + x.status(), 3);
        due("force", x.force(0) + x.status(), -4);
        due("terms", x.terms(0, 0) + x.status(), 0);
        due("undo", x.undo() + x.status(), -6);
        due("sessions", x.sessions(0, 0) + x.status(), -2);
        due("image", x.image(0) + x.status(), 0);
        due("back", x.back(1) + x.status(), -4);
        due("sway", x.sway(0, 0, 0) + x.status(), 9);
        due("law", law(x, "") + x.status(), -12);
        due("seen", x.seen(0, 1) + x.status(), 1);
        due("orders", orders(x, "go 9") + x.status(), -6);
        due("member", x.member(1, 1) + x.status(), 3);
        due("row", x.row() + x.status(), -12);
    }

    private static void run(int number) {
        promise = number;
        switch (number) {
            case 1: newObject(); break;
            case 2: member(); break;
            case 3: of(); break;
            case 4: asks(); break;
            case 5: bill(); break;
            case 6: terms(); break;
            case 7: feed(); break;
            case 8: end(); break;
            case 9: row(); break;
            case 10: feathers(); break;
            case 11: law(); lawRoom(); lawMeaning(); break;
            case 12: orders(); ordersAllOrNothing(); break;
            case 13: fault(); break;
            case 14: stopped(); break;
            case 15: force(); break;
            case 16: put(); break;
            case 17: go(); break;
            case 18: sway(); break;
            case 19: pass(); break;
            case 20: undo(); break;
            case 21: votes(); break;
            case 22: best(); break;
            case 23: rings(); break;
            case 24: agenda(); break;
            case 25: power(); break;
            case 26: pivot(); break;
            case 27: enough(); break;
            case 28: out(); break;
            case 29: first(); break;
            case 30: falsely(); break;
            case 31: seen(); break;
            case 32: forget(); break;
            case 33: canBe(); break;
            case 34: ask(); break;
            case 35: few(); break;
            case 36: compare(); break;
            case 37: sessions(); break;
            case 38: drawn(); break;
            case 40: imageAndBack(); break;
            case 41: count(); break;
            case 42: status(); break;
            default: break;
        }
    }

    public static void main(String[] args) {
        for (int number = 1; number <= 42; number++) {
            run(number);
        }
        System.out.println(wrong == 0 ? "all promises hold" : wrong + " answers are not as due");
        if (wrong != 0) {
            System.exit(1);
        }
    }
}
