import java.io.IOException;

/** The boundary sentences of the shelves: section 1's last part and promises 33 to 39. */
public final class ShelvesEdgesTest extends Edges {

    private static void terms() {
        sentence("SHELVES 0 .. 7", () -> {
            valley(2);
            for (int bad : new int[] {-1, 8, LOW, HIGH}) {
                allRefused(-1, () -> x.keep(bad, 0, 0), () -> x.keep(bad, 1, 0), () -> x.row(bad, 0, 1), () -> x.put(bad, 0, 1), () -> x.copy(bad, 0, 0, 0, 0),
                    () -> x.copy(0, 0, bad, 0, 0), () -> x.weight(bad), () -> x.toss(bad), () -> x.fault(bad), () -> x.custom(bad), () -> x.ring(bad, 1),
                    () -> x.bound(bad), () -> x.proves(bad));
                due(1, thrownByElement(bad, 0));
            }
            for (int d = 0; d < 8; d++) {
                due(0, x.row(d, 0, 1));
                due(0, x.put(d, 0, d + 1));
            }
            for (int d = 0; d < 8; d++) due(d + 1, x.element(d, 0));
        });
        sentence("each hold nothing (at first)", () -> {
            valley(1);
            for (int d = 0; d < 8; d++) {
                int shelf = d;
                allRefused(-11, () -> x.weight(shelf), () -> x.toss(shelf), () -> x.put(shelf, 0, 0), () -> x.fault(shelf), () -> x.custom(shelf),
                    () -> x.ring(shelf, 1), () -> x.bound(shelf), () -> x.proves(shelf), () -> x.copy(shelf, 0, shelf, 0, 0));
                due(2, thrownByElement(shelf, 0));
            }
        });
        sentence("one of FOLK (as then)", () -> {
            valley(2);
            x.keep(0, 1, 0);
            x.death(0, 1);
            x.keep(1, 1, 0);
            due(0, x.toss(0));
            due(-15, x.toss(1));
            x.week(9);
            due(0, x.toss(0));
            x.keep(0, 1, 0);
            due(-15, x.toss(0));
        });
        sentence("A ROW has a SORT (0 bytes, 1 shorts, 2 ints)", () -> {
            allRefused(-1, () -> x.row(0, -1, 1), () -> x.row(0, 3, 1), () -> x.row(0, LOW, 1), () -> x.row(0, HIGH, 1));
            for (int sort = 0; sort < 3; sort++) due(0, x.row(sort, sort, 1));
            for (int sort = 0; sort < 3; sort++) x.put(sort, 0, 0x12348765);
            due(0x65, x.element(0, 0));
            due((short) 0x8765, x.element(1, 0));
            due(0x12348765, x.element(2, 0));
        });
        sentence("and 0 .. 80 elements", () -> {
            due(0, x.row(0, 0, 0));
            due(2, thrownByElement(0, 0));
            due(-13, x.put(0, 0, 1));
            due(0, x.row(0, 2, 80));
            due(0, x.put(0, 79, -7));
            due(-7, x.element(0, 79));
            refused(-13, () -> x.put(0, 80, 1));
            due(2, thrownByElement(0, 80));
            allRefused(-1, () -> x.row(0, 2, 81), () -> x.row(0, 2, HIGH));
            due(-7, x.element(0, 79));
        });
        sentence("elements, 0 at first", () -> {
            for (int round = 0; round < 2; round++) {
                x.row(3, 2, 80);
                for (int i = 0; i < 80; i++) due(0, x.element(3, i));
                for (int i = 0; i < 80; i++) x.put(3, i, -1);
            }
            x.row(3, 0, 2);
            due(0, x.element(3, 0));
            x.put(3, 1, 5);
            x.row(3, 0, 2);
            due(0, x.element(3, 1));
        });
        sentence("what is put in keeps its lowest bits", () -> {
            x.row(0, 0, 1);
            int[] whole = {127, 128, 255, 256, -128, -129, -256, HIGH, LOW, 0x17f};
            int[] ofBytes = {127, -128, -1, 0, -128, 127, 0, -1, 0, 127};
            for (int i = 0; i < whole.length; i++) {
                due(0, x.put(0, 0, whole[i]));
                due(ofBytes[i], x.element(0, 0));
            }
            x.row(0, 1, 1);
            int[] wider = {32767, 32768, 65535, 65536, -32768, -32769, -65536, HIGH, LOW, 128};
            int[] ofShorts = {32767, -32768, -1, 0, -32768, 32767, 0, -1, 0, 128};
            for (int i = 0; i < wider.length; i++) {
                due(0, x.put(0, 0, wider[i]));
                due(ofShorts[i], x.element(0, 0));
            }
            x.row(0, 2, 1);
            for (int v : new int[] {HIGH, LOW, -1, 65536, 0}) {
                due(0, x.put(0, 0, v));
                due(v, x.element(0, 0));
            }
        });
    }

    private static void refusals() {
        sentence("-11 nothing is held where something is wanted", () -> {
            valley(1);
            x.keep(2, 1, 0);
            x.keep(2, 0, 0);
            x.row(3, 2, 1);
            x.keep(3, 0, 0);
            for (int d = 2; d < 5; d++) {
                int shelf = d;
                allRefused(-11, () -> x.weight(shelf), () -> x.toss(shelf), () -> x.put(shelf, 0, 0), () -> x.put(shelf, -1, 0), () -> x.fault(shelf), () -> x.bound(shelf));
            }
        });
        sentence("-12 it is of another kind", () -> {
            valley(1);
            x.keep(0, 1, 0);
            allRefused(-12, () -> x.put(0, 0, 0), () -> x.put(0, -1, 0), () -> x.fault(0), () -> x.custom(0), () -> x.ring(0, 1), () -> x.bound(0), () -> x.proves(0), () -> x.copy(0, 0, 0, 0, 0));
            due(2, thrownByElement(0, 0));
            for (int sort = 0; sort < 3; sort++) {
                x.row(0, sort, 1);
                allRefused(-12, () -> x.weight(0), () -> x.toss(0));
            }
            x.row(0, 0, 1);
            allRefused(-12, () -> x.bound(0), () -> x.proves(0));
            x.row(0, 1, 1);
            allRefused(-12, () -> x.bound(0), () -> x.proves(0), () -> x.fault(0), () -> x.custom(0), () -> x.ring(0, 1));
            x.row(0, 2, 1);
            allRefused(-12, () -> x.fault(0), () -> x.custom(0), () -> x.ring(0, 1));
        });
        sentence("-13 a place that isn't there", () -> {
            x.row(0, 1, 3);
            allRefused(-13, () -> x.put(0, -1, 1), () -> x.put(0, 3, 1), () -> x.put(0, LOW, 1), () -> x.put(0, HIGH, 1));
            due(0, x.put(0, 0, 8));
            due(0, x.put(0, 2, 9));
            due(8, x.element(0, 0));
            due(0, x.element(0, 1));
            due(9, x.element(0, 2));
        });
        sentence("-14 a size below 0", () -> {
            bytes(0, 7);
            allRefused(-14, () -> x.row(0, 0, -1), () -> x.row(1, 2, -1), () -> x.row(0, 1, LOW));
            due(7, x.element(0, 0));
            due(-11, x.put(1, 0, 0));
        });
        sentence("-15 a FAILURE that is none", () -> {
            valley(1);
            x.folk(1, 0, 0);
            x.keep(0, 1, 0);
            x.keep(1, 1, 1);
            due(0, x.toss(0));
            refused(-15, () -> x.toss(1));
        });
    }

    private static void calls() {
        sentence("what = 0 nothing (the others do not matter); 1 one of FOLK k: 0. -1.", () -> {
            valley(2);
            for (int k : new int[] {0, 1, 2, -1, LOW, HIGH}) {
                x.keep(0, 1, 0);
                due(0, x.keep(0, 0, k));
                due(-11, x.weight(0));
            }
            due(0, x.keep(0, 0, 0));
            due(0, x.keep(0, 1, 1));
            due(1, x.toss(0));
            allRefused(-1, () -> x.keep(0, 1, 2), () -> x.keep(0, 1, -1), () -> x.keep(0, 1, LOW), () -> x.keep(0, 1, HIGH), () -> x.keep(0, 2, 0), () -> x.keep(0, -1, 0),
                () -> x.keep(8, 0, 0), () -> x.keep(-1, 0, 0));
            due(1, x.toss(0));
        });
        sentence("SHELF d gets a ROW of a SORT: 0. -1 (n above 80); -14.", () -> {
            valley(1);
            x.keep(0, 1, 0);
            allRefused(-1, () -> x.row(8, 0, -1), () -> x.row(-1, 0, -1), () -> x.row(0, 3, -1), () -> x.row(0, -1, -1), () -> x.row(0, 0, 81));
            refused(-14, () -> x.row(0, 2, -1));
            due(0, x.toss(0));
            due(0, x.row(0, 2, 1));
            due(-12, x.toss(0));
        });
        sentence("Element i of the ROW becomes v: 0. -1, -11, -12, -13.", () -> {
            valley(1);
            x.keep(1, 1, 0);
            x.row(2, 0, 0);
            refused(-1, () -> x.put(8, -1, 0));
            refused(-11, () -> x.put(0, -1, 0));
            refused(-12, () -> x.put(1, -1, 0));
            refused(-13, () -> x.put(2, 0, 0));
            x.row(2, 0, 1);
            due(0, x.put(2, 0, -1));
            due(-1, x.element(2, 0));
        });
        sentence("Element i of the ROW. IllegalArgumentException: no such SHELF; IllegalStateException: no ROW, no such place.", () -> {
            valley(1);
            x.keep(1, 1, 0);
            bytes(2, 4, 5);
            for (int bad : new int[] {-1, 8, LOW, HIGH}) {
                due(1, thrownByElement(bad, 0));
                due(1, thrownByElement(bad, -1));
            }
            due(2, thrownByElement(0, 0));
            due(2, thrownByElement(1, 0));
            for (int bad : new int[] {-1, 2, LOW, HIGH}) due(2, thrownByElement(2, bad));
            due(4, x.element(2, 0));
            due(5, x.element(2, 1));
        });
        copies();
        sentence("100, HOURS and WORTH; of YOUNG ones 5 more; of SMITHS SKILLS (as bits) more; of ELDERS and JUDGES their PLACE 10 times more; of JUDGES twice all that. -1, -11, -12 (a ROW).", () -> {
            int[] least = {120, 117, 127, 117, 234};
            int[] most = {120, 117, 158, 167, 334};
            for (int k = 0; k < 5; k++) {
                x.keep(0, 1, x.folk(k, 0, 0));
                x.keep(1, 1, x.folk(k, 5, 31));
                due(least[k], x.weight(0));
                due(most[k], x.weight(1));
            }
            x.death(0, 1);
            x.keep(0, 1, 0);
            due(120, x.weight(0));
            x.row(2, 0, 0);
            refused(-12, () -> x.weight(2));
            refused(-11, () -> x.weight(3));
            refused(-1, () -> x.weight(8));
        });
        sentence("its number; of JUDGES 100 more. -1, -11, -12 (a ROW); -15: YOUNG ones, and those that were dead, have none.", () -> {
            for (int i = 0; i < 12; i++) x.folk(i % 5, 0, 0);
            for (int i = 0; i < 12; i++) {
                x.keep(0, 1, i);
                due(i % 5 == 1 ? -15 : i % 5 == 4 ? 100 + i : i, x.toss(0));
            }
            x.keep(0, 1, 9);
            x.keep(1, 1, 11);
            x.death(9, 0);
            x.death(11, 0);
            x.keep(2, 1, 9);
            x.keep(3, 1, 11);
            due(109, x.toss(0));
            due(-15, x.toss(1));
            due(-15, x.toss(2));
            due(-15, x.toss(3));
            x.row(4, 1, 0);
            refused(-12, () -> x.toss(4));
            refused(-11, () -> x.toss(5));
            refused(-1, () -> x.toss(-1));
        });
    }

    private static void copies() {
        sentence("n elements of the ROW in SHELF d from i on come to that in SHELF e from j on: n.", () -> {
            shorts(0, 1, 2, 3, 4, 5);
            shorts(1, -1, -2, -3);
            due(2, x.copy(0, 3, 1, 1, 2));
            row(1, -1, 4, 5);
            row(0, 1, 2, 3, 4, 5);
            due(3, x.copy(0, 0, 1, 0, 3));
            row(1, 1, 2, 3);
            // into itself, ahead and back: as they stood before the call
            due(4, x.copy(0, 0, 0, 1, 4));
            row(0, 1, 1, 2, 3, 4);
            due(4, x.copy(0, 1, 0, 0, 4));
            row(0, 1, 2, 3, 4, 4);
            due(5, x.copy(0, 0, 0, 0, 5));
            row(0, 1, 2, 3, 4, 4);
            x.row(2, 2, 80);
            x.row(3, 2, 80);
            x.put(2, 79, 6);
            due(80, x.copy(2, 0, 3, 0, 80));
            due(6, x.element(3, 79));
        });
        sentence("-1, -11 (either), -12 (no ROWS of one SORT), -13.", () -> {
            valley(1);
            x.keep(1, 1, 0);
            bytes(2, 1);
            shorts(3, 1);
            ints(4, 1);
            bytes(5, 9);
            allRefused(-1, () -> x.copy(-1, 0, 0, 0, 0), () -> x.copy(0, 0, 8, 0, 0), () -> x.copy(8, 0, 2, 9, 9), () -> x.copy(2, 9, -1, 0, 9));
            allRefused(-11, () -> x.copy(0, 0, 2, 0, 1), () -> x.copy(2, 0, 0, 0, 1), () -> x.copy(0, 0, 1, 0, 1), () -> x.copy(1, 0, 0, 0, 1), () -> x.copy(0, -1, 0, -1, -1));
            allRefused(-12, () -> x.copy(1, 0, 2, 0, 1), () -> x.copy(2, 0, 1, 0, 1), () -> x.copy(1, 0, 1, 0, 1), () -> x.copy(2, 0, 3, 0, 1), () -> x.copy(3, 0, 4, 0, 1),
                () -> x.copy(4, 0, 2, 0, 1), () -> x.copy(2, -1, 3, -1, -1), () -> x.copy(2, 0, 4, 0, 0));
            allRefused(-13, () -> x.copy(2, 0, 5, 0, 2), () -> x.copy(2, 1, 5, 0, 1), () -> x.copy(2, 0, 5, 1, 1));
            due(1, x.copy(2, 0, 5, 0, 1));
            due(1, x.element(5, 0));
        });
        sentence("(no ROWS of one SORT), -13.", () -> {
            ints(0, 1, 2, 3);
            ints(1, 7, 8);
            // nothing may be taken from, or laid, right behind the end
            due(0, x.copy(0, 3, 1, 2, 0));
            due(0, x.copy(0, 0, 1, 0, 0));
            allRefused(-13, () -> x.copy(0, 4, 1, 0, 0), () -> x.copy(0, 0, 1, 3, 0), () -> x.copy(0, -1, 1, 0, 0), () -> x.copy(0, 0, 1, -1, 0), () -> x.copy(0, -1, 1, 0, 1),
                () -> x.copy(0, 0, 1, -1, 1), () -> x.copy(0, 2, 1, 0, 2), () -> x.copy(0, 0, 1, 1, 2), () -> x.copy(0, 0, 1, 0, 3), () -> x.copy(1, 0, 0, 0, 3));
            // i + n, j + n beyond what an int holds; a number of elements below 0
            allRefused(-13, () -> x.copy(0, HIGH, 1, 0, 1), () -> x.copy(0, 0, 1, HIGH, 1), () -> x.copy(0, 1, 1, 1, HIGH), () -> x.copy(0, HIGH, 1, HIGH, HIGH), () -> x.copy(0, LOW, 1, LOW, LOW),
                () -> x.copy(0, 1, 1, 1, -1), () -> x.copy(0, 0, 1, 0, LOW));
            row(0, 1, 2, 3);
            row(1, 7, 8);
        });
    }

    private static void row(int d, int... want) {
        for (int i = 0; i < want.length; i++) due(want[i], x.element(d, i));
        due(2, thrownByElement(d, want.length));
    }

    public static void main(String[] args) throws IOException {
        terms();
        refusals();
        calls();
        end("ShelvesEdgesTest", args);
    }
}
