/** A house of rooks that vote; ../shared/DOC.md says what each call promises. */
public final class RookHouse {
    public static final int NONE = -1;

    private static final int MEMBERS = 7;
    private static final int BILLS = 5;
    private static final int SEATS = 35;
    private static final int SETS = 128;
    private static final int ORDERS_OF_BILLS = 120;
    private static final int LAWS = 6;
    private static final int SIGHTS = 6;
    private static final int IMAGES = 2;
    private static final int TAPE = 400;
    private static final int LAST_DAY = 999;

    private static final int NO_NUMBER = -1;
    private static final int NO_SUCH = -2;
    private static final int NOT_NOW = -3;
    private static final int NO_ROOM = -5;
    private static final int NO_TEXT = -6;

    private static final int DAY = 0;
    private static final int DOZES = 1;
    private static final int MOOD = 2;
    private static final int NEED = 3;
    private static final int[] MOST_OF_TERM = {999, 10, 9, 99};
    private static final int[] ORDERS_OF = {1, 1, 2, 6, 24, 120, 720, 5040};

    private static final int CLAUSES = 12;
    private static final int SUMS = 3;
    private static final int PARTS = 50;
    private static final int BRACKETS = 8;
    private static final int GREATEST_NUMBER = 1000;
    private static final int MOST_TIMES = 20;
    // A token makes one step at most, and each clause's sums and test one more at their end.
    private static final int STEPS = 480;
    private static final long REACH = 1000000000L;

    private static final int SPEAKS = 0;
    private static final int WANTS = 1;
    private static final int BARS = 2;

    // Also the numbers by which undo() tells what it undid.
    private static final int PUT = 0;
    private static final int GO = 1;
    private static final int SWAY = 2;
    private static final int PASS = 3;

    private static final int STEP_END = 0;
    private static final int STEP_NUMBER = 1;
    private static final int STEP_WORD = 2;
    private static final int STEP_PLUS = 3;
    private static final int STEP_MINUS = 4;
    private static final int STEP_TIMES = 5;
    private static final int STEP_BY = 6;
    private static final int STEP_REST = 7;
    private static final int STEP_LESS = 8;
    private static final int STEP_MORE = 9;
    private static final int STEP_SAME = 10;
    private static final int STEP_NOT = 11;
    private static final int STEP_OR = 12;
    private static final int STEP_AND = 13;

    // A sign's token is its byte; these lie above all bytes.
    private static final int TOKEN_NUMBER = 256;
    private static final int TOKEN_END = 257;
    private static final int TOKEN_STRANGE = 258;
    private static final int TOKEN_SPEAKS = 300;
    private static final int TOKEN_WANTS = 301;
    private static final int TOKEN_BARS = 302;
    private static final int TOKEN_PUT = 303;
    private static final int TOKEN_GO = 304;
    private static final int TOKEN_SWAY = 305;
    private static final int TOKEN_PASS = 306;
    private static final int TOKEN_ON = 307;
    private static final int TOKEN_TO = 308;
    private static final int TOKEN_TIMES = 309;
    private static final int TOKEN_IF = 310;
    private static final int TOKEN_OR = 311;
    private static final int TOKEN_AND = 312;
    private static final int TOKEN_NOT = 313;
    private static final int TOKEN_MEMBER = 314;
    private static final int TOKEN_VOICE = 315;
    private static final int TOKEN_SIDE = 316;
    private static final int TOKEN_BILL = 317;
    private static final int TOKEN_WANT = 318;
    private static final int TOKEN_STANDS = 319;
    private static final int TOKEN_HERE = 320;
    private static final int TOKEN_DAY = 321;
    private static final int TOKEN_MOOD = 322;
    private static final int TOKEN_DONE = 323;
    private static final int TOKEN_LATEST = 324;
    private static final int TOKEN_STANDING = 325;
    private static final int TOKEN_FOR = 326;

    private static final int LAW_WORDS = 9;
    private static final int WORD_MEMBER = 0;
    private static final int WORD_VOICE = 1;
    private static final int WORD_SIDE = 2;
    private static final int WORD_BILL = 3;
    private static final int WORD_WANT = 4;
    private static final int WORD_STANDS = 5;
    private static final int WORD_HERE = 6;
    private static final int WORD_DAY = 7;
    private static final int WORD_MOOD = 8;

    private static final int ORDER_WORDS = 17;
    private static final int WORD_OF_DAY = 0;
    private static final int WORD_DONE = 1;
    private static final int WORD_LATEST = 2;
    private static final int WORD_ALL_HERE = 3;
    private static final int WORD_STANDING = 4;
    private static final int WORD_FOR = 5;
    private static final int WORD_VOICE_OF = 10;

    private static final int SEEDS = 1000000;
    private static final int MOST_SESSIONS = 60;
    private static final int CHANCES = 20;
    private static final int MOST_DOZERS = 99;
    private static final long CERTAIN = 1000000000000L;

    private final House house;
    private final House before;
    private final House paper;
    private final House[] images;
    private final Past past;
    private final Past pastBefore;
    private final Tape tape;
    private final Reader reader;
    private final int[] orderWords;
    private final Table table;
    private final int[] order;
    private final long[] chances;
    private int luck;
    private int stoppedAt;
    private int feathersHad;
    private final int[] refusals;
    private int latestStatus;

    public RookHouse() {
        house = new House();
        before = new House();
        paper = new House();
        images = new House[IMAGES];
        past = new Past();
        pastBefore = new Past();
        tape = new Tape();
        reader = new Reader();
        orderWords = new int[ORDER_WORDS];
        table = new Table();
        order = new int[BILLS];
        chances = new long[CHANCES];
        refusals = new int[-NO_TEXT + 1];
        stoppedAt = NONE;
    }

    public int member(int voice, int side) {
        if (!canBeMember(voice, side)) {
            return refused(NO_NUMBER);
        }
        if (house.members >= MEMBERS) {
            return refused(NO_ROOM);
        }
        past.clear();
        return taken(house.addMember(voice, side));
    }

    public int of(int member, int what) {
        if (!house.hasMember(member)) {
            return NONE;
        }
        if (what == 0) {
            return house.voice[member];
        }
        if (what == 1) {
            return house.side[member];
        }
        if (what == 2) {
            return bitOf(house.here, member);
        }
        return isBill(what - 3) ? house.want[member * BILLS + what - 3] : NONE;
    }

    public int asks(int member, int bill, int what) {
        if (!house.hasMember(member) || !isBill(bill)) {
            return NONE;
        }
        look(bill);
        int seat = member * BILLS + bill;
        switch (what) {
            case 0:
                return table.speak[seat];
            case 1:
                return table.value[seat];
            case 2:
                return bitOf(table.barred[bill], member);
            case 3:
                return bitOf(table.on[bill], member);
            case 4:
                return bitOf(table.inFavour(bill), member);
            default:
                return NONE;
        }
    }

    public int bill(int bill, int what) {
        if (!isBill(bill)) {
            return NONE;
        }
        look(bill);
        switch (what) {
            case 0:
                return bitOf(house.standing, bill);
            case 1:
                return table.voicesFor(bill);
            case 2:
                return table.voices(bill, table.on[bill]);
            case 3:
                return table.needed(bill, table.on[bill]);
            case 4:
                return table.carries(bill) ? 1 : 0;
            case 5:
                lookAtAll();
                return table.points(bill, NONE);
            default:
                return NONE;
        }
    }

    public int terms(int what, int value) {
        if (what < 0 || what >= MOST_OF_TERM.length || value < 0 || value > MOST_OF_TERM[what]) {
            return refused(NO_NUMBER);
        }
        int was = house.term[what];
        house.term[what] = value;
        past.clear();
        return taken(was);
    }

    public int feed(int a, int b, int c, int d, int e) {
        if (tape.size + 20 > TAPE) {
            return NONE;
        }
        tape.add(a);
        tape.add(b);
        tape.add(c);
        tape.add(d);
        tape.add(e);
        return tape.size;
    }

    public int end(int n) {
        if (n < 0 || n > tape.size) {
            return NONE;
        }
        tape.size = n;
        return n;
    }

    public int row() {
        if (tape.size == 0) {
            return refused(NO_TEXT);
        }
        int came = 0;
        int lost = 0;
        for (int at = 0; at < tape.size; at += 2 + BILLS) {
            if (memberFromTape(at)) {
                came++;
            } else {
                lost++;
            }
        }
        feathersHad = lost;
        tape.size = 0;
        past.clear();
        return taken(came);
    }

    public int feathers() {
        return feathersHad;
    }

    public int law() {
        if (house.laws >= LAWS) {
            tape.size = 0;
            return refused(NO_ROOM);
        }
        if (!reader.readText(tape, false)) {
            return refused(NO_TEXT);
        }
        Text text = new Text(reader.text.steps);
        text.copyFrom(reader.text);
        return taken(house.addLaw(text));
    }

    public int orders() {
        stoppedAt = NONE;
        if (!reader.readText(tape, true)) {
            return refused(NO_TEXT);
        }
        Text script = reader.text;
        before.copyFrom(house);
        pastBefore.copyFrom(past);
        orderWords[WORD_DONE] = 0;
        orderWords[WORD_LATEST] = NONE;
        for (int c = 0; c < script.clauses && c < CLAUSES; c++) {
            for (int t = 0; t < script.times[c] && t < MOST_TIMES; t++) {
                if (!runOnce(script, c)) {
                    house.copyFrom(before);
                    past.copyFrom(pastBefore);
                    stoppedAt = c;
                    return refused(NOT_NOW);
                }
            }
        }
        return taken(orderWords[WORD_DONE]);
    }

    public int fault() {
        return reader.fault;
    }

    public int stopped() {
        return stoppedAt;
    }

    public int force(int law) {
        if (law != NONE && !house.hasLaw(law)) {
            return refused(NO_SUCH);
        }
        int was = house.inForce;
        house.inForce = law;
        return taken(was);
    }

    public int put(int bill) {
        return answered(doPut(bill));
    }

    public int go(int member) {
        return answered(doGo(member));
    }

    public int sway(int member, int bill, int want) {
        return answered(doSway(member, bill, want));
    }

    public int pass() {
        return answered(doPass());
    }

    public int undo() {
        if (past.size == 0) {
            return refused(NOT_NOW);
        }
        return taken(past.takeBack(house));
    }

    public int votes(int one, int other) {
        if (!areTwoBills(one, other)) {
            return NONE;
        }
        look(one);
        look(other);
        return table.votesAgainst(one, other);
    }

    public int best() {
        lookAtAll();
        table.fillBeaten();
        for (int b = 0; b < BILLS; b++) {
            if (Integer.bitCount(table.beaten[b]) == BILLS - 1) {
                return b;
            }
        }
        return NONE;
    }

    public int rings() {
        lookAtAll();
        table.fillBeaten();
        int found = 0;
        for (int a = 0; a < BILLS; a++) {
            for (int b = a + 1; b < BILLS; b++) {
                for (int c = b + 1; c < BILLS; c++) {
                    if (table.isRing(a, b, c) || table.isRing(a, c, b)) {
                        found++;
                    }
                }
            }
        }
        return found;
    }

    public int agenda(int bill, int what) {
        if (!isBill(bill) || what < 0 || what > BILLS) {
            return NONE;
        }
        lookAtAll();
        table.fillBeaten();
        firstOrder(order);
        int ways = 0;
        for (int i = 0; i < ORDERS_OF_BILLS; i++) {
            if (table.winner(order) == bill) {
                if (what > 0) {
                    return order[what - 1];
                }
                ways++;
            }
            nextOrder(order);
        }
        return ways > 0 ? ways : NONE;
    }

    public int power(int member, int bill) {
        return swings(member, bill, false);
    }

    public int pivot(int member, int bill) {
        return swings(member, bill, true);
    }

    public int enough(int bill, int what) {
        return fewest(bill, what, false);
    }

    public int out(int bill, int what) {
        return fewest(bill, what, true);
    }

    public int first() {
        lookAtAll();
        return table.leader();
    }

    public int falsely(int member, int what) {
        if (!house.hasMember(member) || bitOf(house.here, member) == 0 || what < 0 || what > BILLS) {
            return NONE;
        }
        lookAtAll();
        int honest = table.valueOf(member, table.leader());
        table.fillWithout(member);
        firstOrder(order);
        for (int i = 0; i < ORDERS_OF_BILLS; i++) {
            int then = table.leaderIfTold(order);
            if (table.valueOf(member, then) > honest) {
                return what == 0 ? then : order[what - 1];
            }
            nextOrder(order);
        }
        return NONE;
    }

    public int seen(int one, int other) {
        if (!areTwoBills(one, other)) {
            return refused(NO_NUMBER);
        }
        if (house.sights >= SIGHTS) {
            return refused(NO_ROOM);
        }
        house.sightFor[house.sights] = one;
        house.sightAgainst[house.sights] = other;
        house.sights++;
        return taken(house.sights);
    }

    public int forget() {
        int was = house.sights;
        house.sights = 0;
        return was;
    }

    public int canBe() {
        lookAtAll();
        return suspects();
    }

    public int ask(int what) {
        lookAtAll();
        int who = suspects();
        if (who == 0 || what < 0 || what > 2) {
            return NONE;
        }
        int lower = 0;
        int higher = 0;
        int least = MEMBERS + 1;
        for (int a = 0; a < BILLS; a++) {
            for (int b = a + 1; b < BILLS; b++) {
                int left = table.mostAlike(who, a, b);
                if (left < least) {
                    least = left;
                    lower = a;
                    higher = b;
                }
            }
        }
        return what == 0 ? lower : what == 1 ? higher : least;
    }

    public long few(int k, int n) {
        if (k < 1 || k > CHANCES || n < 0 || n > MOST_DOZERS) {
            return NONE;
        }
        int dozes = house.term[DOZES];
        for (int j = 0; j < CHANCES; j++) {
            chances[j] = j == 0 ? CERTAIN : 0;
        }
        for (int i = 0; i < n; i++) {
            for (int j = k - 1; j >= 0; j--) {
                long come = j == 0 ? 0 : chances[j - 1] * dozes / 10;
                chances[j] = chances[j] * (10 - dozes) / 10 + come;
            }
        }
        long together = 0;
        for (int j = 0; j < k; j++) {
            together += chances[j];
        }
        return together;
    }

    public int compare(int law) {
        if (law != NONE && !house.hasLaw(law)) {
            return NONE;
        }
        table.fillAll(house, house.lawAt(law));
        return table.leader();
    }

    public int sessions(int seed, int n) {
        if (seed < 0 || seed > SEEDS || n < 1 || n > MOST_SESSIONS) {
            return refused(NO_NUMBER);
        }
        if (house.members == 0) {
            return refused(NOT_NOW);
        }
        paper.copyFrom(house);
        luck = seed;
        for (int i = 0; i < n && paper.term[DAY] < LAST_DAY; i++) {
            holdSession();
        }
        return taken(Integer.bitCount(paper.standing));
    }

    public int drawn(int k, int what) {
        // Sessions need members, so that a paper without any tells that there were none yet.
        if (paper.members == 0) {
            return NONE;
        }
        if (what == 0) {
            return isBill(k) ? bitOf(paper.standing, k) : NONE;
        }
        if (!paper.hasMember(k)) {
            return NONE;
        }
        if (what == 1) {
            return bitOf(paper.here, k);
        }
        return isBill(what - 2) ? paper.want[k * BILLS + what - 2] : NONE;
    }

    public int image(int k) {
        if (k < 0 || k >= IMAGES) {
            return refused(NO_NUMBER);
        }
        House kept = images[k];
        if (kept == null) {
            kept = new House();
            images[k] = kept;
        }
        kept.copyFrom(house);
        return taken(0);
    }

    public int back(int k) {
        if (k < 0 || k >= IMAGES) {
            return refused(NO_NUMBER);
        }
        House kept = images[k];
        if (kept == null) {
            return refused(NO_SUCH);
        }
        house.copyFrom(kept);
        past.clear();
        return taken(0);
    }

    public int count(int what) {
        switch (what) {
            case 0:
                return house.members;
            case 1:
                return Integer.bitCount(house.here);
            case 2:
                return house.standing;
            case 3:
                return house.sights;
            case 4:
                return house.laws;
            case 5:
                return past.size;
            case 6:
                return tape.size;
            case 7:
                return refusals[-NO_NUMBER];
            case 8:
                return refusals[-NO_SUCH];
            case 9:
                return refusals[-NOT_NOW];
            case 10:
                return refusals[-NO_ROOM];
            case 11:
                return refusals[-NO_TEXT];
            case 12:
                return house.inForce;
            default:
                return what >= 13 && what < 13 + MOST_OF_TERM.length ? house.term[what - 13] : NONE;
        }
    }

    public int status() {
        return latestStatus;
    }

    private int refused(int reason) {
        latestStatus = reason;
        if (-reason >= 0 && -reason < refusals.length) {
            refusals[-reason]++;
        }
        return reason;
    }

    private int taken(int answer) {
        latestStatus = 0;
        return answer;
    }

    private int answered(int answer) {
        return answer < 0 ? refused(answer) : taken(answer);
    }

    private static boolean isBill(int bill) {
        return bill >= 0 && bill < BILLS;
    }

    private static boolean areTwoBills(int one, int other) {
        return isBill(one) && isBill(other) && one != other;
    }

    private static boolean isWant(int want) {
        return want >= 0 && want <= 9;
    }

    private static boolean canBeMember(int voice, int side) {
        return voice >= 1 && voice <= 9 && side >= 0 && side <= 3;
    }

    private static int bitOf(int bits, int place) {
        return bits >> place & 1;
    }

    private void look(int bill) {
        table.fillBill(house, house.lawAt(house.inForce), bill);
    }

    private void lookAtAll() {
        table.fillAll(house, house.lawAt(house.inForce));
    }

    private boolean memberFromTape(int at) {
        if (house.members >= MEMBERS || at < 0 || at + 2 + BILLS > tape.size) {
            return false;
        }
        int voice = tape.bytes[at];
        int side = tape.bytes[at + 1];
        if (!canBeMember(voice, side)) {
            return false;
        }
        for (int b = 0; b < BILLS; b++) {
            if (!isWant(tape.bytes[at + 2 + b])) {
                return false;
            }
        }
        int member = house.addMember(voice, side);
        for (int b = 0; b < BILLS && house.hasMember(member); b++) {
            house.want[member * BILLS + b] = tape.bytes[at + 2 + b];
        }
        return true;
    }

    private int doPut(int bill) {
        if (!isBill(bill)) {
            return NO_NUMBER;
        }
        table.fillBill(house, house.lawAt(house.inForce), bill);
        if (!table.carries(bill)) {
            return NOT_NOW;
        }
        house.standing ^= 1 << bill;
        past.keep(PUT, bill, 0);
        return table.voicesFor(bill);
    }

    private int doGo(int member) {
        if (!house.hasMember(member)) {
            return NO_SUCH;
        }
        house.here ^= 1 << member;
        past.keep(GO, member, 0);
        return bitOf(house.here, member);
    }

    private int doSway(int member, int bill, int want) {
        if (!isBill(bill) || !isWant(want)) {
            return NO_NUMBER;
        }
        if (!house.hasMember(member)) {
            return NO_SUCH;
        }
        int seat = member * BILLS + bill;
        int was = house.want[seat];
        if (was == want) {
            return NOT_NOW;
        }
        house.want[seat] = want;
        past.keep(SWAY, seat, was);
        return was;
    }

    private int doPass() {
        if (house.term[DAY] >= LAST_DAY) {
            return NOT_NOW;
        }
        int were = house.here;
        house.nextDay();
        past.keep(PASS, were, 0);
        return Integer.bitCount(house.here & ~were);
    }

    /** Whether the orders can go on: a clause whose "if" is not so does not stop them. */
    private boolean runOnce(Text script, int clause) {
        if (clause < 0 || clause >= CLAUSES) {
            return false;
        }
        fillOrderWords(script.billsAsked);
        Reckoner reckoner = table.reckoner;
        int test = script.testAt[clause];
        if (test != NONE && reckoner.reckon(script, test, orderWords) == 0) {
            return true;
        }
        int a = reckoner.reckon(script, script.sumAt[clause * SUMS], orderWords);
        boolean broken = reckoner.broken;
        int b = reckoner.reckon(script, script.sumAt[clause * SUMS + 1], orderWords);
        broken |= reckoner.broken;
        int c = reckoner.reckon(script, script.sumAt[clause * SUMS + 2], orderWords);
        broken |= reckoner.broken;
        if (broken || carryOut(script.kind[clause], a, b, c) < 0) {
            return false;
        }
        orderWords[WORD_DONE]++;
        return true;
    }

    private int carryOut(int kind, int a, int b, int c) {
        switch (kind) {
            case PUT:
                orderWords[WORD_LATEST] = doPut(a);
                return orderWords[WORD_LATEST];
            case GO:
                return doGo(a);
            case SWAY:
                return doSway(a, b, c);
            default:
                return doPass();
        }
    }

    private void fillOrderWords(int billsAsked) {
        orderWords[WORD_OF_DAY] = house.term[DAY];
        orderWords[WORD_ALL_HERE] = Integer.bitCount(house.here);
        orderWords[WORD_STANDING] = Integer.bitCount(house.standing);
        for (int b = 0; b < BILLS; b++) {
            if (bitOf(billsAsked, b) == 1) {
                look(b);
                orderWords[WORD_FOR + b] = table.voicesFor(b);
            }
        }
        for (int m = 0; m < MEMBERS; m++) {
            orderWords[WORD_VOICE_OF + m] = house.hasMember(m) ? house.voice[m] : NONE;
        }
    }

    private int swings(int member, int bill, boolean byOrders) {
        if (!house.hasMember(member) || !isBill(bill)) {
            return NONE;
        }
        look(bill);
        int on = table.on[bill];
        if (bitOf(on, member) == 0) {
            return 0;
        }
        int others = on & ~(1 << member);
        int many = Integer.bitCount(others);
        int needed = table.needed(bill, on);
        int own = table.voices(bill, 1 << member);
        int found = 0;
        for (int set = 0; set < SETS; set++) {
            int voices = (set & ~others) == 0 ? table.voices(bill, set) : needed;
            if (voices < needed && voices + own >= needed) {
                found += byOrders ? ordersAround(Integer.bitCount(set), many) : 1;
            }
        }
        return found;
    }

    /** In how many orders just these few of the others come ahead of one. */
    private static int ordersAround(int ahead, int others) {
        int behind = others - ahead;
        if (ahead < 0 || behind < 0 || ahead >= ORDERS_OF.length || behind >= ORDERS_OF.length) {
            return 0;
        }
        return ORDERS_OF[ahead] * ORDERS_OF[behind];
    }

    private int fewest(int bill, int what, boolean sentOut) {
        if (!isBill(bill) || what < 0 || what > 1) {
            return NONE;
        }
        look(bill);
        int on = table.on[bill];
        int found = NONE;
        int least = MEMBERS + 1;
        for (int set = 0; set < SETS; set++) {
            int size = Integer.bitCount(set);
            if ((set & ~on) == 0 && size < least && isAnswer(bill, set, sentOut)) {
                least = size;
                found = set;
            }
        }
        return found == NONE || what == 1 ? found : least;
    }

    private boolean isAnswer(int bill, int set, boolean sentOut) {
        if (!isBill(bill)) {
            return false;
        }
        int on = table.on[bill];
        if (sentOut) {
            int left = on & ~set;
            return table.voices(bill, table.inFavour(bill) & left) >= table.needed(bill, left);
        }
        return table.voices(bill, set) >= table.needed(bill, on);
    }

    private int suspects() {
        int bits = 0;
        for (int m = 0; m < house.members && m < MEMBERS; m++) {
            boolean fits = true;
            for (int i = 0; i < house.sights && i < SIGHTS; i++) {
                fits &= table.prefers(m, house.sightFor[i], house.sightAgainst[i]);
            }
            bits |= fits ? 1 << m : 0;
        }
        return bits;
    }

    private static void firstOrder(int[] row) {
        for (int i = 0; i < row.length; i++) {
            row[i] = i;
        }
    }

    private static void nextOrder(int[] row) {
        int turn = row.length - 2;
        while (turn >= 0 && row[turn] > row[turn + 1]) {
            turn--;
        }
        if (turn < 0) {
            return;
        }
        int larger = row.length - 1;
        while (larger > turn + 1 && row[larger] < row[turn]) {
            larger--;
        }
        swap(row, turn, larger);
        int high = row.length - 1;
        for (int low = turn + 1; low < high; low++) {
            swap(row, low, high);
            high--;
        }
    }

    private static void swap(int[] row, int i, int j) {
        if (i < 0 || j < 0 || i >= row.length || j >= row.length) {
            return;
        }
        int kept = row[i];
        row[i] = row[j];
        row[j] = kept;
    }

    private void holdSession() {
        // All four are drawn whatever comes of them, so that the next session's luck is the same.
        int member = draw(paper.members);
        int bill = draw(BILLS);
        int want = draw(10);
        int deed = draw(4);
        if (deed == 0) {
            paper.setWant(member, bill, want);
        } else if (deed == 1) {
            paper.here ^= 1 << member;
        } else {
            table.fillBill(paper, paper.lawAt(paper.inForce), bill);
            paper.standing ^= table.carries(bill) ? 1 << bill : 0;
        }
        paper.nextDay();
    }

    private int draw(int many) {
        luck = (int) ((luck * 1103L + 12345) % 1000003);
        return many > 0 ? luck % many : 0;
    }

    /** All that an image keeps. */
    private static final class House {
        int members;
        int here;
        int standing;
        int laws;
        int inForce;
        int sights;
        final int[] voice;
        final int[] side;
        final int[] want;
        final int[] term;
        final Text[] lawText;
        final int[] sightFor;
        final int[] sightAgainst;

        House() {
            voice = new int[MEMBERS];
            side = new int[MEMBERS];
            want = new int[SEATS];
            term = new int[MOST_OF_TERM.length];
            lawText = new Text[LAWS];
            sightFor = new int[SIGHTS];
            sightAgainst = new int[SIGHTS];
            inForce = NONE;
            term[DOZES] = 1;
        }

        void copyFrom(House other) {
            members = other.members;
            here = other.here;
            standing = other.standing;
            laws = other.laws;
            inForce = other.inForce;
            sights = other.sights;
            System.arraycopy(other.voice, 0, voice, 0, MEMBERS);
            System.arraycopy(other.side, 0, side, 0, MEMBERS);
            System.arraycopy(other.want, 0, want, 0, SEATS);
            System.arraycopy(other.term, 0, term, 0, MOST_OF_TERM.length);
            System.arraycopy(other.sightFor, 0, sightFor, 0, SIGHTS);
            System.arraycopy(other.sightAgainst, 0, sightAgainst, 0, SIGHTS);
            // A law's text never changes once it is read, so that houses may share it.
            for (int i = 0; i < LAWS; i++) {
                lawText[i] = other.lawText[i];
            }
        }

        boolean hasMember(int member) {
            return member >= 0 && member < members && member < MEMBERS;
        }

        boolean hasLaw(int law) {
            return law >= 0 && law < laws && law < LAWS;
        }

        /** Null where no law is. */
        Text lawAt(int law) {
            return law >= 0 && law < laws && law < LAWS ? lawText[law] : null;
        }

        int addLaw(Text text) {
            int number = laws;
            if (number < 0 || number >= LAWS) {
                return NONE;
            }
            lawText[number] = text;
            laws = number + 1;
            return number;
        }

        int addMember(int newVoice, int newSide) {
            int number = members;
            if (number < 0 || number >= MEMBERS) {
                return NONE;
            }
            voice[number] = newVoice;
            side[number] = newSide;
            for (int b = 0; b < BILLS; b++) {
                want[number * BILLS + b] = 0;
            }
            here |= 1 << number;
            members = number + 1;
            return number;
        }

        void setWant(int member, int bill, int newWant) {
            if (hasMember(member) && isBill(bill)) {
                want[member * BILLS + bill] = newWant;
            }
        }

        void nextDay() {
            term[DAY]++;
            here = (1 << members) - 1;
        }
    }

    /** What can be undone, the oldest first. */
    private static final class Past {
        static final int KEPT = 16;
        static final int FIELDS = 3;

        int size;
        final int[] deed;

        Past() {
            deed = new int[KEPT * FIELDS];
        }

        void clear() {
            size = 0;
        }

        void copyFrom(Past other) {
            size = other.size;
            System.arraycopy(other.deed, 0, deed, 0, KEPT * FIELDS);
        }

        void keep(int kind, int where, int was) {
            if (size >= KEPT) {
                System.arraycopy(deed, FIELDS, deed, 0, (KEPT - 1) * FIELDS);
                size = KEPT - 1;
            }
            if (size < 0) {
                return;
            }
            int at = size * FIELDS;
            deed[at] = kind;
            deed[at + 1] = where;
            deed[at + 2] = was;
            size++;
        }

        /** Whatever else changes what this gives back clears the past, so that the deed alone tells how it was. */
        int takeBack(House house) {
            if (size < 1 || size > KEPT) {
                return NOT_NOW;
            }
            size--;
            int at = size * FIELDS;
            int kind = deed[at];
            int where = deed[at + 1];
            if (kind == PUT) {
                house.standing ^= 1 << where;
            } else if (kind == GO) {
                house.here ^= 1 << where;
            } else if (kind == SWAY) {
                if (where >= 0 && where < SEATS) {
                    house.want[where] = deed[at + 2];
                }
            } else {
                house.here = where;
                house.term[DAY]--;
            }
            return kind;
        }
    }

    private static final class Tape {
        int size;
        final int[] bytes;

        Tape() {
            bytes = new int[TAPE];
        }

        void add(int number) {
            for (int shift = 24; shift >= 0 && size >= 0 && size < TAPE; shift -= 8) {
                bytes[size] = number >> shift & 255;
                size++;
            }
        }
    }

    /** A text that was read: its clauses, and the steps by which their sums and tests are reckoned. */
    private static final class Text {
        int clauses;
        int steps;
        int billsAsked;
        final int[] kind;
        final int[] times;
        final int[] sumAt;
        final int[] testAt;
        final int[] step;
        final int[] with;

        Text(int room) {
            kind = new int[CLAUSES];
            times = new int[CLAUSES];
            sumAt = new int[CLAUSES * SUMS];
            testAt = new int[CLAUSES];
            step = new int[Math.max(room, 0)];
            with = new int[Math.max(room, 0)];
        }

        void clear() {
            clauses = 0;
            steps = 0;
            billsAsked = 0;
            for (int c = 0; c < CLAUSES; c++) {
                times[c] = 1;
                testAt[c] = NONE;
            }
            for (int i = 0; i < CLAUSES * SUMS; i++) {
                sumAt[i] = NONE;
            }
        }

        void copyFrom(Text other) {
            clauses = other.clauses;
            steps = Math.min(other.steps, step.length);
            billsAsked = other.billsAsked;
            System.arraycopy(other.kind, 0, kind, 0, CLAUSES);
            System.arraycopy(other.times, 0, times, 0, CLAUSES);
            System.arraycopy(other.sumAt, 0, sumAt, 0, CLAUSES * SUMS);
            System.arraycopy(other.testAt, 0, testAt, 0, CLAUSES);
            System.arraycopy(other.step, 0, step, 0, steps);
            System.arraycopy(other.with, 0, with, 0, steps);
        }

        void setKind(int clause, int newKind) {
            if (clause >= 0 && clause < CLAUSES) {
                kind[clause] = newKind;
            }
        }

        int add(int newStep, int newWith) {
            int at = steps;
            if (at < 0 || at >= step.length || at >= with.length) {
                return NONE;
            }
            step[at] = newStep;
            with[at] = newWith;
            steps = at + 1;
            return at;
        }

        /** A step that may leap over what stands behind it leaps to the next one to come. */
        void landHere(int leap) {
            if (leap >= 0 && leap < with.length) {
                with[leap] = steps;
            }
        }
    }

    /** The tokens of a tape, with one for its end. */
    private static final class Tokens {
        static final int MOST = 401;

        int count;
        final int[] at;
        final int[] code;
        final int[] number;

        Tokens() {
            at = new int[MOST];
            code = new int[MOST];
            number = new int[MOST];
        }

        void scan(Tape tape) {
            count = 0;
            int size = Math.min(tape.size, TAPE);
            int place = 0;
            for (int i = 0; i < TAPE && place < size; i++) {
                int sign = tape.bytes[place];
                int behind = place + 1;
                if (isLetter(sign)) {
                    while (behind < size && isLetter(tape.bytes[behind])) {
                        behind++;
                    }
                    add(place, wordOf(tape, place, behind), 0);
                } else if (isDigit(sign)) {
                    while (behind < size && isDigit(tape.bytes[behind])) {
                        behind++;
                    }
                    add(place, TOKEN_NUMBER, numberOf(tape, place, behind));
                } else if (sign != ' ') {
                    add(place, sign, 0);
                }
                place = behind;
            }
            add(size, TOKEN_END, 0);
        }

        private void add(int newAt, int newCode, int newNumber) {
            if (count >= 0 && count < MOST) {
                at[count] = newAt;
                code[count] = newCode;
                number[count] = newNumber;
                count++;
            }
        }

        private static boolean isLetter(int sign) {
            return sign >= 'a' && sign <= 'z';
        }

        private static boolean isDigit(int sign) {
            return sign >= '0' && sign <= '9';
        }

        /** Held at one above the greatest number, since a row of digits may be as long as the tape. */
        private static int numberOf(Tape tape, int from, int to) {
            int told = 0;
            for (int i = Math.max(from, 0); i < to && i < TAPE; i++) {
                told = Math.min(told * 10 + tape.bytes[i] - '0', GREATEST_NUMBER + 1);
            }
            return told;
        }

        private static int wordOf(Tape tape, int from, int to) {
            for (int word = TOKEN_SPEAKS; word <= TOKEN_FOR; word++) {
                if (isSpelled(tape, from, to, spelling(word))) {
                    return word;
                }
            }
            return TOKEN_STRANGE;
        }

        private static boolean isSpelled(Tape tape, int from, int to, String word) {
            if (from < 0 || to > TAPE || to - from != word.length()) {
                return false;
            }
            for (int i = from; i < to; i++) {
                if (tape.bytes[i] != word.charAt(i - from)) {
                    return false;
                }
            }
            return true;
        }

        private static String spelling(int word) {
            switch (word) {
                case TOKEN_SPEAKS: return "speaks";
                case TOKEN_WANTS: return "wants";
                case TOKEN_BARS: return "bars";
                case TOKEN_PUT: return "put";
                case TOKEN_GO: return "go";
                case TOKEN_SWAY: return "sway";
                case TOKEN_PASS: return "pass";
                case TOKEN_ON: return "on";
                case TOKEN_TO: return "to";
                case TOKEN_TIMES: return "times";
                case TOKEN_IF: return "if";
                case TOKEN_OR: return "or";
                case TOKEN_AND: return "and";
                case TOKEN_NOT: return "not";
                case TOKEN_MEMBER: return "member";
                case TOKEN_VOICE: return "voice";
                case TOKEN_SIDE: return "side";
                case TOKEN_BILL: return "bill";
                case TOKEN_WANT: return "want";
                case TOKEN_STANDS: return "stands";
                case TOKEN_HERE: return "here";
                case TOKEN_DAY: return "day";
                case TOKEN_MOOD: return "mood";
                case TOKEN_DONE: return "done";
                case TOKEN_LATEST: return "latest";
                case TOKEN_STANDING: return "standing";
                case TOKEN_FOR: return "for";
                default: return "";
            }
        }
    }

    /** Reads a text from the left: no token is looked at before all ahead of it could go on. */
    private static final class Reader {
        final Tokens tokens;
        final Text text;
        boolean asOrders;
        int fault;
        int next;
        int token;
        int number;
        int place;
        int parts;

        Reader() {
            tokens = new Tokens();
            text = new Text(STEPS);
            fault = NONE;
        }

        boolean readText(Tape tape, boolean readOrders) {
            tokens.scan(tape);
            tape.size = 0;
            text.clear();
            asOrders = readOrders;
            fault = NONE;
            parts = 0;
            next = 0;
            advance();
            for (int c = 0; c < CLAUSES; c++) {
                if (!(asOrders ? readOrder(c) : readLawClause(c))) {
                    return false;
                }
                text.clauses = c + 1;
                if (take(TOKEN_END)) {
                    return true;
                }
                if (!take(';')) {
                    return fail();
                }
            }
            return fail();
        }

        private boolean readLawClause(int clause) {
            if (take(TOKEN_SPEAKS)) {
                return readSumOf(clause, 0, SPEAKS) && readIf(clause);
            }
            if (take(TOKEN_WANTS)) {
                return readSumOf(clause, 0, WANTS) && readIf(clause);
            }
            if (take(TOKEN_BARS)) {
                text.setKind(clause, BARS);
                return readIf(clause);
            }
            return fail();
        }

        private boolean readOrder(int clause) {
            if (take(TOKEN_PUT)) {
                return readSumOf(clause, 0, PUT) && readTimes(clause) && readIf(clause);
            }
            if (take(TOKEN_GO)) {
                return readSumOf(clause, 0, GO) && readTimes(clause) && readIf(clause);
            }
            if (take(TOKEN_SWAY)) {
                return readSumOf(clause, 0, SWAY)
                        && (take(TOKEN_ON) || fail())
                        && readSumOf(clause, 1, SWAY)
                        && (take(TOKEN_TO) || fail())
                        && readSumOf(clause, 2, SWAY)
                        && readTimes(clause)
                        && readIf(clause);
            }
            if (take(TOKEN_PASS)) {
                text.setKind(clause, PASS);
                return readTimes(clause) && readIf(clause);
            }
            return fail();
        }

        private boolean readSumOf(int clause, int which, int kind) {
            if (clause < 0 || clause >= CLAUSES || which < 0 || which >= SUMS) {
                return fail();
            }
            text.setKind(clause, kind);
            text.sumAt[clause * SUMS + which] = text.steps;
            boolean fine = readSum(0);
            text.add(STEP_END, 0);
            return fine;
        }

        private boolean readTimes(int clause) {
            if (!take(TOKEN_TIMES)) {
                return true;
            }
            int times = numberTo(MOST_TIMES);
            if (times < 1 || clause < 0 || clause >= CLAUSES) {
                return fail();
            }
            text.times[clause] = times;
            advance();
            return true;
        }

        private boolean readIf(int clause) {
            if (!take(TOKEN_IF)) {
                return true;
            }
            if (clause < 0 || clause >= CLAUSES) {
                return fail();
            }
            text.testAt[clause] = text.steps;
            boolean fine = readTest(0);
            text.add(STEP_END, 0);
            return fine;
        }

        private boolean readTest(int depth) {
            boolean fine = readBoth(depth);
            for (int i = 0; i < TAPE && fine && take(TOKEN_OR); i++) {
                int leap = text.add(STEP_OR, 0);
                fine = readBoth(depth);
                text.landHere(leap);
            }
            return fine;
        }

        private boolean readBoth(int depth) {
            boolean fine = readPlain(depth);
            for (int i = 0; i < TAPE && fine && take(TOKEN_AND); i++) {
                int leap = text.add(STEP_AND, 0);
                fine = readPlain(depth);
                text.landHere(leap);
            }
            return fine;
        }

        private boolean readPlain(int depth) {
            // A row of "not" may be as long as the tape: it is turned here, not by a call for each.
            boolean turned = false;
            for (int i = 0; i < TAPE && take(TOKEN_NOT); i++) {
                turned = !turned;
            }
            if (token == '(') {
                if (!readBracket(depth)) {
                    return false;
                }
            } else {
                if (!readSum(depth)) {
                    return false;
                }
                int step = take('<') ? STEP_LESS : take('>') ? STEP_MORE : take('=') ? STEP_SAME : NONE;
                if (step == NONE) {
                    return fail();
                }
                if (!readSum(depth)) {
                    return false;
                }
                text.add(step, 0);
            }
            if (turned) {
                text.add(STEP_NOT, 0);
            }
            return true;
        }

        private boolean readBracket(int depth) {
            if (depth >= BRACKETS) {
                return fail();
            }
            advance();
            return readTest(depth + 1) && (take(')') || fail());
        }

        private boolean readSum(int depth) {
            boolean fine = readTerm(depth);
            for (int i = 0; i < TAPE && fine; i++) {
                int step = take('+') ? STEP_PLUS : take('-') ? STEP_MINUS : NONE;
                if (step == NONE) {
                    return true;
                }
                fine = readTerm(depth);
                text.add(step, 0);
            }
            return fine;
        }

        private boolean readTerm(int depth) {
            boolean fine = readPart(depth);
            for (int i = 0; i < TAPE && fine; i++) {
                int step = take('*') ? STEP_TIMES : take('/') ? STEP_BY : take('%') ? STEP_REST : NONE;
                if (step == NONE) {
                    return true;
                }
                fine = readPart(depth);
                text.add(step, 0);
            }
            return fine;
        }

        private boolean readPart(int depth) {
            if (token == '[') {
                if (depth >= BRACKETS) {
                    return fail();
                }
                advance();
                return readSum(depth + 1) && (take(']') || fail());
            }
            if (parts >= PARTS) {
                return fail();
            }
            parts++;
            boolean isNumber = token == TOKEN_NUMBER;
            int with = isNumber ? numberTo(GREATEST_NUMBER) : asOrders ? orderWord(token) : lawWord(token);
            if (with == NONE) {
                return fail();
            }
            advance();
            if (asOrders && !isNumber && (with == WORD_FOR || with == WORD_VOICE_OF)) {
                return readNumbered(with);
            }
            text.add(isNumber ? STEP_NUMBER : STEP_WORD, with);
            return true;
        }

        private boolean readNumbered(int word) {
            int told = numberTo(word == WORD_FOR ? BILLS - 1 : MEMBERS - 1);
            if (told == NONE) {
                return fail();
            }
            text.billsAsked |= word == WORD_FOR ? 1 << told : 0;
            text.add(STEP_WORD, word + told);
            advance();
            return true;
        }

        private static int lawWord(int token) {
            switch (token) {
                case TOKEN_MEMBER: return WORD_MEMBER;
                case TOKEN_VOICE: return WORD_VOICE;
                case TOKEN_SIDE: return WORD_SIDE;
                case TOKEN_BILL: return WORD_BILL;
                case TOKEN_WANT: return WORD_WANT;
                case TOKEN_STANDS: return WORD_STANDS;
                case TOKEN_HERE: return WORD_HERE;
                case TOKEN_DAY: return WORD_DAY;
                case TOKEN_MOOD: return WORD_MOOD;
                default: return NONE;
            }
        }

        private static int orderWord(int token) {
            switch (token) {
                case TOKEN_DAY: return WORD_OF_DAY;
                case TOKEN_DONE: return WORD_DONE;
                case TOKEN_LATEST: return WORD_LATEST;
                case TOKEN_HERE: return WORD_ALL_HERE;
                case TOKEN_STANDING: return WORD_STANDING;
                case TOKEN_FOR: return WORD_FOR;
                case TOKEN_VOICE: return WORD_VOICE_OF;
                default: return NONE;
            }
        }

        private boolean fail() {
            fault = place;
            return false;
        }

        private void advance() {
            if (next >= 0 && next < tokens.count && next < Tokens.MOST) {
                token = tokens.code[next];
                number = tokens.number[next];
                place = tokens.at[next];
                next++;
            }
        }

        private boolean take(int wanted) {
            if (token != wanted) {
                return false;
            }
            advance();
            return true;
        }

        /** The number that stands here; NONE if there is none or it is more. */
        private int numberTo(int most) {
            return token == TOKEN_NUMBER && number <= most ? number : NONE;
        }
    }

    /** Reckons the steps of a sum or a test; 0 where it is broken, so that a broken test is not so. */
    private static final class Reckoner {
        static final int HEAP = 64;

        boolean broken;
        final long[] heap;

        Reckoner() {
            heap = new long[HEAP];
        }

        int reckon(Text text, int from, int[] words) {
            broken = false;
            if (from < 0) {
                return 0;
            }
            int top = 0;
            int steps = Math.min(text.steps, Math.min(text.step.length, text.with.length));
            for (int i = from; i < steps && !broken; i++) {
                int step = text.step[i];
                int with = text.with[i];
                if (step == STEP_END) {
                    break;
                }
                if (step == STEP_NUMBER || step == STEP_WORD) {
                    if (top < HEAP) {
                        heap[top] = step == STEP_NUMBER ? with : wordAt(words, with);
                    }
                    top++;
                } else if (top < 1 || top > HEAP) {
                    broken = true;
                } else if (step == STEP_NOT) {
                    heap[top - 1] = heap[top - 1] == 0 ? 1 : 0;
                } else if (step == STEP_OR || step == STEP_AND) {
                    if (heap[top - 1] != 0 == (step == STEP_OR)) {
                        i = Math.max(i, with - 1);
                    } else {
                        top--;
                    }
                } else if (top < 2) {
                    broken = true;
                } else {
                    top--;
                    heap[top - 1] = joined(step, heap[top - 1], heap[top]);
                }
            }
            return broken || top < 1 || top > HEAP ? 0 : (int) heap[0];
        }

        private static int wordAt(int[] words, int word) {
            return word >= 0 && word < words.length ? words[word] : 0;
        }

        private long joined(int step, long a, long b) {
            long told = 0;
            if (step == STEP_BY || step == STEP_REST) {
                if (b == 0) {
                    broken = true;
                    return 0;
                }
                told = step == STEP_BY ? a / b : a % b;
            } else if (step == STEP_PLUS) {
                told = a + b;
            } else if (step == STEP_MINUS) {
                told = a - b;
            } else if (step == STEP_TIMES) {
                told = a * b;
            } else if (step == STEP_LESS) {
                told = a < b ? 1 : 0;
            } else if (step == STEP_MORE) {
                told = a > b ? 1 : 0;
            } else {
                told = a == b ? 1 : 0;
            }
            broken |= told > REACH || told < -REACH;
            return told;
        }
    }

    /** What a law says of members and bills in a house, and what follows from it. */
    private static final class Table {
        int members;
        int here;
        int need;
        final int[] speak;
        final int[] value;
        final int[] barred;
        final int[] on;
        final int[] beaten;
        final int[] tally;
        final int[] others;
        final int[] own;
        final int[] words;
        final Reckoner reckoner;

        Table() {
            speak = new int[SEATS];
            value = new int[SEATS];
            barred = new int[BILLS];
            on = new int[BILLS];
            beaten = new int[BILLS];
            tally = new int[BILLS];
            others = new int[BILLS];
            own = new int[BILLS];
            words = new int[LAW_WORDS];
            reckoner = new Reckoner();
        }

        void fillAll(House house, Text law) {
            for (int b = 0; b < BILLS; b++) {
                fillBill(house, law, b);
            }
        }

        /** The law may be null: then all speak and value by themselves. */
        void fillBill(House house, Text law, int bill) {
            if (!isBill(bill)) {
                return;
            }
            members = Math.min(house.members, MEMBERS);
            here = house.here;
            need = house.term[NEED];
            barred[bill] = 0;
            for (int m = 0; m < members && m < MEMBERS; m++) {
                int seat = m * BILLS + bill;
                speak[seat] = house.voice[m];
                value[seat] = house.want[seat];
                if (law != null) {
                    words[WORD_MEMBER] = m;
                    words[WORD_VOICE] = house.voice[m];
                    words[WORD_SIDE] = house.side[m];
                    words[WORD_BILL] = bill;
                    words[WORD_WANT] = house.want[seat];
                    words[WORD_STANDS] = bitOf(house.standing, bill);
                    words[WORD_HERE] = Integer.bitCount(here);
                    words[WORD_DAY] = house.term[DAY];
                    words[WORD_MOOD] = house.term[MOOD];
                    applyLaw(law, m, bill);
                }
            }
            on[bill] = here & ~barred[bill];
        }

        private void applyLaw(Text law, int member, int bill) {
            int seat = member * BILLS + bill;
            if (seat < 0 || seat >= SEATS || !isBill(bill)) {
                return;
            }
            for (int c = 0; c < law.clauses && c < CLAUSES; c++) {
                int test = law.testAt[c];
                boolean so = test == NONE || reckoner.reckon(law, test, words) != 0;
                if (so && law.kind[c] == BARS) {
                    barred[bill] |= 1 << member;
                } else if (so) {
                    int told = reckoner.reckon(law, law.sumAt[c * SUMS], words);
                    int near = Math.max(0, Math.min(9, told));
                    if (!reckoner.broken && law.kind[c] == SPEAKS) {
                        speak[seat] = near;
                    } else if (!reckoner.broken) {
                        value[seat] = near;
                    }
                }
            }
        }

        int voices(int bill, int set) {
            int together = 0;
            for (int m = 0; m < MEMBERS && isBill(bill); m++) {
                if (bitOf(set, m) == 1) {
                    together += speak[m * BILLS + bill];
                }
            }
            return together;
        }

        int inFavour(int bill) {
            int bits = 0;
            for (int m = 0; m < MEMBERS && isBill(bill); m++) {
                if (bitOf(on[bill], m) == 1 && value[m * BILLS + bill] >= 5) {
                    bits |= 1 << m;
                }
            }
            return bits;
        }

        int voicesFor(int bill) {
            return voices(bill, inFavour(bill));
        }

        int needed(int bill, int set) {
            return need > 0 ? need : voices(bill, set) / 2 + 1;
        }

        boolean carries(int bill) {
            return isBill(bill) && voicesFor(bill) >= needed(bill, on[bill]);
        }

        boolean prefers(int member, int one, int other) {
            if (!hasSeat(member) || !isBill(one) || !isBill(other)) {
                return false;
            }
            boolean free = bitOf(barred[one] | barred[other], member) == 0;
            return free && valueOf(member, one) > valueOf(member, other);
        }

        int votesAgainst(int one, int other) {
            int voters = 0;
            for (int m = 0; m < members; m++) {
                if (bitOf(here, m) == 1 && prefers(m, one, other)) {
                    voters |= 1 << m;
                }
            }
            return voices(one, voters);
        }

        void fillBeaten() {
            for (int a = 0; a < BILLS; a++) {
                beaten[a] = 0;
            }
            for (int a = 0; a < BILLS; a++) {
                for (int b = a + 1; b < BILLS; b++) {
                    int forA = votesAgainst(a, b);
                    int forB = votesAgainst(b, a);
                    beaten[a] |= forA > forB ? 1 << b : 0;
                    beaten[b] |= forB > forA ? 1 << a : 0;
                }
            }
        }

        boolean isRing(int a, int b, int c) {
            return doesBeat(a, b) && doesBeat(b, c) && doesBeat(c, a);
        }

        private boolean doesBeat(int one, int other) {
            return isBill(one) && isBill(other) && bitOf(beaten[one], other) == 1;
        }

        int winner(int[] row) {
            int holder = NONE;
            for (int i = 0; i < row.length; i++) {
                if (holder == NONE || doesBeat(row[i], holder)) {
                    holder = row[i];
                }
            }
            return holder;
        }

        int mostAlike(int who, int one, int other) {
            int forOne = 0;
            int forOther = 0;
            for (int m = 0; m < MEMBERS; m++) {
                if (bitOf(who, m) == 1) {
                    forOne += prefers(m, one, other) ? 1 : 0;
                    forOther += prefers(m, other, one) ? 1 : 0;
                }
            }
            int forNeither = Integer.bitCount(who) - forOne - forOther;
            return Math.max(forNeither, Math.max(forOne, forOther));
        }

        int valueOf(int member, int bill) {
            return hasSeat(member) && isBill(bill) ? value[member * BILLS + bill] : 0;
        }

        /** The points that a bill has without one member (NONE: by all). */
        int points(int bill, int without) {
            int together = 0;
            for (int m = 0; m < MEMBERS && isBill(bill); m++) {
                if (m != without && bitOf(on[bill], m) == 1) {
                    together += rank(m, bill) * speak[m * BILLS + bill];
                }
            }
            return together;
        }

        private int rank(int member, int bill) {
            int own = valueOf(member, bill);
            int less = 0;
            for (int b = 0; b < BILLS; b++) {
                less += valueOf(member, b) < own ? 1 : 0;
            }
            return less;
        }

        int leader() {
            for (int b = 0; b < BILLS; b++) {
                tally[b] = points(b, NONE);
            }
            return mostOf(tally);
        }

        /** What stays the same whichever order a member tells, so that it is reckoned but once. */
        void fillWithout(int member) {
            for (int b = 0; b < BILLS; b++) {
                others[b] = points(b, member);
                own[b] = hasSeat(member) && bitOf(on[b], member) == 1 ? speak[member * BILLS + b] : 0;
            }
        }

        int leaderIfTold(int[] row) {
            for (int i = 0; i < row.length; i++) {
                int bill = row[i];
                if (isBill(bill)) {
                    tally[bill] = others[bill] + (BILLS - 1 - i) * own[bill];
                }
            }
            return mostOf(tally);
        }

        private static boolean hasSeat(int member) {
            return member >= 0 && member < MEMBERS;
        }

        private static int mostOf(int[] tallies) {
            int leads = 0;
            int most = NONE;
            for (int b = 0; b < tallies.length; b++) {
                if (tallies[b] > most) {
                    most = tallies[b];
                    leads = b;
                }
            }
            return leads;
        }
    }
}
