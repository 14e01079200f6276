import java.lang.reflect.Method;
import java.nio.file.Files;
import java.nio.file.Path;
import java.util.Arrays;
import java.util.Comparator;
import java.util.TreeSet;
import java.util.function.IntSupplier;

/**
 * Runs tests of the document's boundary cases: each method p07TapeIsFull() tests one sentence, of promise 7, which it
 * says first. With the document's path as an argument, sentences that don't stand in it are told, too.
 */
abstract class Boundary {
    static final int LOW = Integer.MIN_VALUE;
    static final int HIGH = Integer.MAX_VALUE;
    static final int NONE = -1;
    static final int[] REASONS = {-1, -2, -3, -5, -6};
    /** Voices 3, 2, 2; bills 0, 1, 2 are a ring, nobody wants 3 and 4. */
    static final int[] THREE = {3, 0, 9, 5, 1, 0, 0, 2, 1, 1, 9, 5, 0, 0, 2, 2, 5, 1, 9, 0, 0};

    private int wrong = 0;
    private int promise = 0;
    private int checks = 0;
    private String test = "";
    private String sentence = "";
    private String document = null;

    final void runAll(String[] args) throws Exception {
        if (failures(args) != 0) {
            System.exit(1);
        }
    }

    final int failures(String[] args) throws Exception {
        if (args.length > 0) {
            document = Files.readString(Path.of(args[0]));
        }
        Method[] methods = getClass().getDeclaredMethods();
        Arrays.sort(methods, Comparator.comparing(Method::getName));
        TreeSet<Integer> promises = new TreeSet<>();
        int tests = 0;
        for (Method one : methods) {
            if (one.getName().matches("p[0-9][0-9].*")) {
                run(one);
                promises.add(promise);
                tests++;
            }
        }
        System.out.println(tests + " boundary cases of promises " + promises);
        System.out.println(wrong == 0 ? "all of them hold" : wrong + " answers are not as due");
        return tests == 0 ? 1 : wrong;
    }

    private void run(Method one) throws Exception {
        test = one.getName();
        promise = Integer.parseInt(test.substring(1, 3));
        sentence = "";
        checks = 0;
        one.setAccessible(true);
        one.invoke(this);
        if (checks == 0 || sentence.isEmpty()) {
            wrong++;
            System.out.println(test + " tests nothing");
        }
    }

    final void says(String words) {
        sentence = words;
        if (document != null && !document.contains(words)) {
            wrong++;
            System.out.println(test + ": the document does not say \"" + words + "\"");
        }
    }

    final void due(String what, long got, long want) {
        checks++;
        if (got != want) {
            wrong++;
            System.out.println("promise " + promise + ", \"" + sentence + "\" (" + test + "): " + what + " answered " + got
                    + ", due is " + want);
        }
    }

    /** A call that is refused answers why, is counted and told by status(), and changes nothing of the house. */
    final void refuses(RookHouse x, int reason, String what, IntSupplier call) {
        int[] were = refusals(x);
        int[] was = looks(x);
        due(what, call.getAsInt(), reason);
        due("status() behind " + what, x.status(), reason);
        int[] are = refusals(x);
        for (int i = 0; i < REASONS.length; i++) {
            due("refused by " + REASONS[i] + " behind " + what, are[i] - were[i], REASONS[i] == reason ? 1 : 0);
        }
        due("the house is as it was behind " + what, Arrays.equals(was, looks(x)) ? 1 : 0, 1);
    }

    /** A question that answers NONE is no refused call. */
    final void none(RookHouse x, String what, IntSupplier call) {
        int[] were = refusals(x);
        int was = x.status();
        due(what, call.getAsInt(), NONE);
        due("status() behind " + what, x.status(), was);
        due("nothing was refused by " + what, Arrays.equals(were, refusals(x)) ? 1 : 0, 1);
    }

    private static int[] refusals(RookHouse x) {
        return new int[] {x.count(7), x.count(8), x.count(9), x.count(10), x.count(11)};
    }

    private static int[] looks(RookHouse x) {
        return new int[] {x.count(0), x.count(1), x.count(2), x.count(3), x.count(4), x.count(5), x.count(12), x.count(13),
            x.count(14), x.count(15), x.count(16), x.of(0, 3), x.of(0, 7)};
    }

    static void bytes(RookHouse x, int... bytes) {
        int had = x.count(6);
        for (int i = 0; i < bytes.length; i += 20) {
            int[] n = new int[5];
            for (int j = 0; j < 20 && i + j < bytes.length; j++) {
                n[j / 4] |= bytes[i + j] << (24 - j % 4 * 8);
            }
            x.feed(n[0], n[1], n[2], n[3], n[4]);
        }
        x.end(had + bytes.length);
    }

    static void text(RookHouse x, String text) {
        bytes(x, text.chars().toArray());
    }

    static int law(RookHouse x, String text) {
        text(x, text);
        return x.law();
    }

    static int orders(RookHouse x, String text) {
        text(x, text);
        return x.orders();
    }

    /** Rows of seven: voice, side, five wants. */
    static RookHouse house(int... rows) {
        RookHouse x = new RookHouse();
        if (rows.length > 0) {
            bytes(x, rows);
            x.row();
        }
        return x;
    }

    /** One member of voice 5, side 0, who wants all bills by 9. */
    static RookHouse one() {
        return house(5, 0, 9, 9, 9, 9, 9);
    }

    static RookHouse seven() {
        RookHouse x = new RookHouse();
        for (int m = 0; m < 7; m++) {
            x.member(1, 0);
        }
        return x;
    }

    /** A house whose only law, in force, is this one. */
    final RookHouse under(String law, int... rows) {
        RookHouse x = house(rows);
        due("law() of " + law, law(x, law), 0);
        x.force(0);
        return x;
    }
}
