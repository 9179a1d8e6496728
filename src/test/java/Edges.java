import java.io.IOException;
import java.nio.file.Files;
import java.nio.file.Path;
import java.util.ArrayList;
import java.util.List;
import java.util.function.LongSupplier;

/**
 * What the tests of the document's boundary sentences share: each sentence stands in its own words and is tested by
 * itself, on valleys of its own.
 */
class Edges {
    static final int LOW = Integer.MIN_VALUE;
    static final int HIGH = Integer.MAX_VALUE;
    static final int FULL = 150;
    private static final List<String> SENTENCES = new ArrayList<>();
    private static int wrong;
    private static int asked;
    static HourValley x;

    static void sentence(String words, Runnable test) {
        SENTENCES.add(words);
        x = new HourValley();
        int before = asked;
        test.run();
        if (asked == before) tell("nothing was asked");
    }

    private static void tell(String what) {
        wrong++;
        String words = SENTENCES.get(SENTENCES.size() - 1);
        int line = 0;
        for (StackTraceElement at : new Throwable().getStackTrace()) if (line == 0 && at.getClassName().endsWith("EdgesTest")) line = at.getLineNumber();
        System.out.println("\"" + words + "\", line " + line + ": " + what);
    }

    static void due(long want, long got) {
        asked++;
        if (want != got) tell("answered " + got + ", due is " + want);
    }

    /** The call answers so, and changes nothing that can be asked. */
    static void refused(long want, LongSupplier call) {
        String before = State.of(x);
        due(want, call.getAsLong());
        if (!State.of(x).equals(before)) tell("a refused call changed something");
    }

    /** All of these calls answer so, and change nothing. */
    static void allRefused(long want, LongSupplier... calls) {
        for (LongSupplier call : calls) refused(want, call);
    }

    /** Ends the tests of one class. With the document's path as an argument: are the sentences still in it? */
    static void end(String name, String[] args) throws IOException {
        if (args.length > 0) {
            String document = Files.readString(Path.of(args[0]));
            for (String words : SENTENCES) if (!document.contains(words)) tellStray(words);
        }
        System.out.println(name + ": " + SENTENCES.size() + " sentences, " + asked + " answers, " + wrong + " wrong");
        if (wrong != 0) System.exit(1);
    }

    private static void tellStray(String words) {
        wrong++;
        System.out.println("not in the document: " + words);
    }

    // ---- valleys and what stands on shelves

    /** A new valley with so many grown folk in place 0 with all skills. */
    static void valley(int grown) {
        x = new HourValley();
        for (int i = 0; i < grown; i++) x.folk(0, 0, 31);
    }

    static void text(int d, String s) {
        x.row(d, 0, s.length());
        for (int i = 0; i < s.length(); i++) x.put(d, i, s.charAt(i));
    }

    static void bytes(int d, int... v) { fill(d, 0, v); }
    static void shorts(int d, int... v) { fill(d, 1, v); }
    static void ints(int d, int... v) { fill(d, 2, v); }

    private static void fill(int d, int sort, int[] v) {
        x.row(d, sort, v.length);
        for (int i = 0; i < v.length; i++) x.put(d, i, v[i]);
    }

    /** Tells a custom by shelf 0: the entry's number. */
    static int customOf(String s) {
        text(0, s);
        return x.custom(0);
    }

    static int faultOf(String s) {
        text(0, s);
        return x.fault(0);
    }

    /** Tells doubted acts of one hour between two that live, till there are so many entries. */
    static void fillBook(int gave, int took, int entries) {
        while (x.count(1) < entries && x.act(gave, took, 1, 0, 1) >= 0) continue;
        due(entries, x.count(1));
    }

    /** What a owes b by all, as of the week, view 0. */
    static int owedNow(int a, int b) {
        return x.owed(a, b, x.count(2), -1, 0);
    }

    /** 1 if balance throws what the document names, else 0. */
    static int thrownByBalance(int who, int week, int e, int view) {
        try {
            x.balance(who, week, e, view);
            return 0;
        } catch (IllegalArgumentException thrown) {
            return 1;
        }
    }

    /** 1 or 2 if element throws the first or the second that the document names, else 0. */
    static int thrownByElement(int d, int i) {
        try {
            x.element(d, i);
            return 0;
        } catch (IllegalArgumentException thrown) {
            return 1;
        } catch (IllegalStateException thrown) {
            return 2;
        }
    }
}
