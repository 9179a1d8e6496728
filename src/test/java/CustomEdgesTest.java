import java.io.IOException;

/** The boundary sentences of section 2 and of promises 7 and 8: the text of a custom, its value, its fault. */
public final class CustomEdgesTest extends Edges {
    private static final String FIELDS = "hngtswy";
    private static final String DIGITS = "0123456789";
    private static final String SIGNS = "+-*/";

    /** What one act of so many hours, seen, by day, between two grown ones in one place in week 0, counts by a custom. */
    private static int value(String s, int hours) {
        valley(2);
        due(0, customOf(s));
        return x.counts(x.act(0, 1, hours, 0, 0), -1, 0);
    }

    private static int value(String s) { return value(s, 1); }

    /** Behind the text that stands already: every byte that may go on, and every other one, which is a fault there. */
    private static void goesOn(String before, String on) {
        for (int b = 0; b < 256; b++) {
            int fault = faultOf(before + (char) b);
            if (on.indexOf(b) < 0) due(before.length(), fault);
            else due(1, fault == -4 || fault == before.length() + 1 ? 1 : 0);
        }
    }

    private static void whole(String... texts) {
        for (String s : texts) due(-4, faultOf(s));
    }

    private static void fault(int at, String s) {
        due(at, faultOf(s));
    }

    private static void sums() {
        sentence("SUM: PRODUCT, and any of + PRODUCT, - PRODUCT behind it, from the left.", () -> {
            due(5, value("9-3-1"));
            due(7, value("9-3+1"));
            due(3, value("3"));
            due(40, value("1+".repeat(39) + "1"));
            due(21, value("60" + "-1".repeat(39)));
            due(2, value("8-2*3"));
            due(14, value("2*3+2*4"));
        });
        sentence("PRODUCT: ATOM, and any of * ATOM, / ATOM behind it, from the left (/ is cut toward 0; by 0 it is 0).", () -> {
            due(1, value("8/4/2"));
            due(8, value("8/4*4"));
            due(24, value("9*8/3"));
            due(3, value("7/2"));
            due(2, value("1+7/4"));
            due(7, value("(0-7)/2+10"));
            due(7, value("7/(0-2)+10"));
            due(13, value("(0-7)/(0-2)+10"));
            due(0, value("(0-1)/2"));
            due(0, value("7/0"));
            due(5, value("(0-7)/0+5"));
            due(4, value("0/0+4"));
            due(2, value("7/0*3+2"));
            due(9, value("9-h/(h-1)"));
            due(9, value("9-h/n"));
            due(2, value("2" + "*1".repeat(39)));
            due(0, value("0" + "/0".repeat(39)));
        });
        sentence("[ SUM < SUM ? SUM : SUM ] (if the first is below the second: the third, else the fourth)", () -> {
            due(3, value("[1<2?3:4]"));
            due(4, value("[2<2?3:4]"));
            due(4, value("[3<2?3:4]"));
            due(3, value("[0-1<0?3:4]"));
            due(4, value("[0<0-1?3:4]"));
            due(5, value("[1+1<2*2?2+3:4-1]"));
            due(12, value("[1<2?3:4]*[2<1?3:4]"));
            due(6, value("[[1<2?1:9]<2?[2<1?5:6]:7]"));
            // where the other part would divide by 0
            due(3, value("[1<2?3:4/0]"));
        });
        sentence("( SUM );", () -> {
            due(9, value("(1+2)*3"));
            due(7, value("1+2*3"));
            due(4, value("8/(1+1)"));
            due(5, value("((((5))))"));
            fault(1, "()");
            fault(2, "(1");
            fault(2, "(1]");
            fault(1, "1)");
        });
        sentence("a NUMBER of 1 to 3 digits without 0 ahead of others", () -> {
            for (int n = 0; n < 1000; n++) due(-4, faultOf(String.valueOf(n)));
            for (int n = 0; n <= 60; n++) due(n, value(String.valueOf(n)));
            due(37, value("999-962"));
            due(20, value("200/10"));
            due(59, value("100-41"));
            fault(1, "00");
            fault(1, "01");
            fault(1, "0999");
            fault(3, "1000");
            fault(3, "9999");
            fault(3, "1+012");
            fault(5, "1+1000");
            whole("0+0", "100", "10*10", "1+0", "909");
        });
        sentence("No blanks.", () -> {
            fault(0, " h");
            fault(1, "h ");
            fault(1, "h +1");
            fault(2, "h+ 1");
            fault(1, "1 0");
            fault(1, "( h)");
            fault(1, "h\t");
            fault(1, "h\n");
        });
    }

    private static void fields() {
        sentence("h hours told", () -> {
            for (int h = 1; h <= 20; h++) due(h, value("h", h));
        });
        sentence("n 1 if by night (else 0)", () -> {
            valley(2);
            customOf("n+7");
            for (int how = 0; how < 4; how++) due(how < 2 ? 7 : 8, x.counts(x.act(0, 1, 1, 0, how), -1, 1));
        });
        sentence("g WORTH of who gave, t WORTH of who took", () -> {
            int[] worth = {10, 7, 15, 10, 12};
            for (int k = 0; k < 5; k++) x.folk(k, 0, 0);
            customOf("g*3-t");
            for (int g = 0; g < 5; g++)
                for (int t = 0; t < 5; t++) if (g != t) due(3 * worth[g] - worth[t], x.counts(x.act(g, t, 1, 0, 0), -1, 0));
        });
        sentence("s the SEASON,", () -> {
            for (int w : new int[] {0, 12, 13, 25, 26, 38, 39, 51, 52, 64, 65, 519, 520}) {
                valley(2);
                customOf("s*9+1");
                x.week(w);
                due(w / 13 % 4 * 9 + 1, x.counts(x.act(0, 1, 1, w, 0), -1, 0));
                // of the act's week, not of the week in which it is told or asked for
                due(1, x.counts(x.act(0, 1, 1, 0, 0), -1, 0));
            }
        });
        sentence("w 1 if they are in two PLACES (else 0)", () -> {
            for (int p = 0; p < 6; p++) x.folk(0, p, 0);
            x.folk(0, 0, 0);
            customOf("w+1");
            for (int p = 1; p < 6; p++) due(2, x.counts(x.act(0, p, 1, 0, 0), -1, 0));
            due(1, x.counts(x.act(0, 6, 1, 0, 0), -1, 0));
            due(2, x.counts(x.act(5, 0, 1, 0, 0), -1, 0));
        });
        sentence("y the WEEK by 52, cut.", () -> {
            for (int w : new int[] {0, 51, 52, 103, 104, 155, 156, 467, 468, 519, 520}) {
                valley(2);
                customOf("y*5+1");
                x.week(w);
                due(w / 52 * 5 + 1, x.counts(x.act(0, 1, 1, w, 0), -1, 0));
            }
        });
    }

    private static void depthAndWidth() {
        sentence("( and [ together at most 8 deep.", () -> {
            whole("((((((((h))))))))", "((((((((h))))))))*((((((((h))))))))", "(((((((" + "[1<1?1:1]+(1)" + ")))))))", "[[[[[[[[1<1?1:1]<1?1:1]<1?1:1]<1?1:1]<1?1:1]<1?1:1]<1?1:1]<1?1:1]");
            whole("([([([([h<1?1:1])<1?1:1])<1?1:1])<1?1:1])", "(((((((" + "[1<1?1:1]" + ")))))))");
            fault(8, "(((((((((h)))))))))");
            fault(8, "[[[[[[[[[");
            fault(8, "((((((((" + "[");
            fault(8, "([([([([(");
            fault(8, "[([([([([");
            fault(8, "(((((((" + "[(1)");
            fault(10, "(((((((" + "[1<(");
            fault(12, "(((((((" + "[1<1?(");
            fault(14, "(((((((" + "[1<1?1:(");
            fault(14, "(((((((" + "[1<1?1:[");
            // what was closed no longer counts
            whole("(((((((" + "(1)*(1)*[1<1?1:1]*(1)" + ")))))))", "(1)*(1)*(1)*(1)*(1)*(1)*(1)*(1)*(1)*(1)", "[1<1?1:1]+[1<1?1:1]+[1<1?1:1]+[1<1?1:1]+[1<1?1:1]");
            fault(26, "((((((((1))))))))+" + "(((((((((");
            due(8, value("((((((((h))))))))", 8));
            due(2, value("[[[[[[[[1<1?1:2]<3?2:1]<3?2:1]<3?2:1]<3?2:1]<3?2:1]<3?2:1]<3?2:1]"));
        });
        sentence("All in 32 bits, as machines do.", () -> {
            due(1, value("[999*999*999*3<0?1:2]"));
            due(1, value("[999*999*999*2+999*999*999<0?1:2]"));
            due(1, value("[0<0-999*999*999*2-999*999*999?1:2]"));
            due(2, value("[999*999*999*2<0?1:2]"));
            due(7, value("512*512*512*32+7"));
            due(7, value("512*512*512*8*4+7"));
            // 2 to the 31st, the lowest number: less than any; less one, the highest; by -1, itself
            due(1, value("[512*512*512*16<0?1:2]"));
            due(1, value("[0<512*512*512*16-1?1:2]"));
            due(1, value("[512*512*512*16/(0-1)<0?1:2]"));
            due(1, value("[0-512*512*512*16<0?1:2]"));
            due(1, value("[512*512*512*16*(0-1)<0?1:2]"));
            due(1, value("[512*512*512*16<512*512*512*16-1?1:2]"));
            due(8, value("512*512*512*16/512/512/512/2+16"));
            // what is left of 999 to the 4th in 32 bits, by numbers that make it small
            due(21, value("0-999*999*999*999/999/999/20"));
            due(0, value("0-h", 20));
            due(60, value("999*999*999"));
        });
    }

    private static void faults() {
        String atom = DIGITS + FIELDS + "([";
        sentence("FAULT: the place of the first byte with which no CUSTOM can go on (the size, if it ends too early).", () -> {
            goesOn("", atom);
            goesOn("h", SIGNS);
            goesOn("0", SIGNS);
            goesOn("7", SIGNS + DIGITS);
            goesOn("10", SIGNS + DIGITS);
            goesOn("120", SIGNS);
            for (char sign : SIGNS.toCharArray()) goesOn("h" + sign, atom);
            goesOn("(", atom);
            goesOn("(y", SIGNS + ")");
            goesOn("(0", SIGNS + ")");
            goesOn("(999", SIGNS + ")");
            goesOn("(h)", SIGNS);
            goesOn("[", atom);
            goesOn("[h", SIGNS + "<");
            goesOn("[h<", atom);
            goesOn("[h<n", SIGNS + "?");
            goesOn("[h<n?", atom);
            goesOn("[h<n?0", SIGNS + ":");
            goesOn("[h<n?g:", atom);
            goesOn("[h<n?g:t", SIGNS + "]");
            goesOn("[h<n?g:t]", SIGNS);
            goesOn("[(h", SIGNS + ")");
            goesOn("([h<n?g:t]", SIGNS + ")");
            goesOn("((((((((", DIGITS + FIELDS);
            goesOn("(((((((", atom);
            goesOn("(((((((h*", atom);
            goesOn("((((((((h*", DIGITS + FIELDS);
        });
        sentence("(the size, if it ends too early)", () -> {
            String text = "[(h+12)*n<g/3?t-100:(w*y)]-0";
            due(-4, faultOf(text));
            for (int n = 0; n < 26; n++) due(n, faultOf(text.substring(0, n)));
            due(-4, faultOf(text.substring(0, 26)));
            due(27, faultOf(text.substring(0, 27)));
            due(0, faultOf(""));
            due(1, faultOf("("));
            due(80, faultOf("1+".repeat(40)));
            due(79, faultOf("1+".repeat(39) + "("));
            due(80, faultOf("1+".repeat(39) + "1+"));
            due(79, faultOf("1+".repeat(39) + "1h"));
            due(-4, faultOf("1+".repeat(39) + "99"));
            due(80, faultOf("(" + "1+".repeat(39) + "1"));
        });
        sentence("A CUSTOM is read from a ROW of bytes: SUM.", () -> {
            // the whole row, and no more than the row: what stood on the shelf before is gone
            text(0, "h+1");
            due(-4, x.fault(0));
            text(0, "h");
            due(-4, x.fault(0));
            x.row(0, 0, 2);
            x.put(0, 0, 'h');
            due(1, x.fault(0));
            x.put(0, 1, '1');
            due(1, x.fault(0));
            x.row(0, 0, 3);
            due(0, x.fault(0));
            // the lowest bits of what is put in are the byte
            x.row(0, 0, 1);
            x.put(0, 0, 256 + 'h');
            due(-4, x.fault(0));
            for (int sort = 1; sort < 3; sort++) {
                x.row(0, sort, 1);
                x.put(0, 0, 'h');
                refused(-12, () -> x.fault(0));
            }
        });
    }

    private static void calls() {
        sentence("The FAULT of the text in SHELF d; -4: it is a CUSTOM. -1, -11, -12 (no ROW of bytes).", () -> {
            valley(1);
            x.keep(1, 1, 0);
            shorts(2, 'h');
            ints(3, 'h');
            bytes(4, 'h');
            allRefused(-1, () -> x.fault(-1), () -> x.fault(8), () -> x.fault(LOW), () -> x.fault(HIGH));
            refused(-11, () -> x.fault(0));
            allRefused(-12, () -> x.fault(1), () -> x.fault(2), () -> x.fault(3));
            refused(-4, () -> x.fault(4));
            bytes(4, 'x');
            refused(0, () -> x.fault(4));
            due(0, x.count(1));
        });
        sentence("the ENTRY's number. -1, -2, -11, -12, -100 less a FAULT, in this order.", () -> {
            valley(2);
            x.keep(1, 1, 0);
            shorts(2, 'h');
            ints(3, 'h');
            text(4, "h+");
            text(5, "");
            text(6, "1+".repeat(40));
            text(7, "h");
            allRefused(-1, () -> x.custom(-1), () -> x.custom(8));
            refused(-11, () -> x.custom(0));
            allRefused(-12, () -> x.custom(1), () -> x.custom(2), () -> x.custom(3));
            refused(-102, () -> x.custom(4));
            refused(-100, () -> x.custom(5));
            refused(-180, () -> x.custom(6));
            due(0, x.custom(7));
            due(1, x.custom(7));
            fillBook(0, 1, FULL);
            for (int d = 0; d < 8; d++) {
                int shelf = d;
                refused(-2, () -> x.custom(shelf));
            }
            allRefused(-1, () -> x.custom(-1), () -> x.custom(8));
        });
        sentence("The text in SHELF d is a CUSTOM", () -> {
            // as it stood when it was told: what the shelf gets later changes nothing
            valley(2);
            text(0, "h+1");
            x.custom(0);
            x.act(0, 1, 3, 0, 0);
            x.put(0, 2, '9');
            due(4, x.counts(1, -1, 0));
            x.row(0, 0, 0);
            due(4, x.counts(1, -1, 0));
            x.keep(0, 0, 0);
            x.act(0, 1, 5, 0, 0);
            due(6, x.counts(2, -1, 0));
            // a text that fills the row
            text(7, "h+" + "0+".repeat(38) + "20");
            x.custom(7);
            due(25, x.counts(2, -1, 0));
        });
    }

    public static void main(String[] args) throws IOException {
        sums();
        fields();
        depthAndWidth();
        faults();
        calls();
        end("CustomEdgesTest", args);
    }
}
