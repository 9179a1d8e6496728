import java.io.DataInputStream;
import java.io.IOException;
import java.io.InputStream;
import java.util.ArrayList;
import java.util.List;
import java.util.Map;
import java.util.TreeMap;
import java.util.TreeSet;

/** What a compiled class does, read from its bytes: the calls and the kinds of instructions of each method. */
final class Compiled {
    /** The lengths of instructions by their numbers, from 0 on; 0 stands for the two whose length varies. */
    private static final String LENGTHS = "1111111111111111" + "2323322222111111" + "1111111111111111" + "1111112222211111"
        + "1111111111111111" + "1111111111111111" + "1111111111111111" + "1111111111111111"
        + "1111311111111111" + "1111111113333333" + "3333333332001111" + "1133333335532311" + "3311043355";
    static final int TABLE = 170;
    static final int LOOKUP = 171;

    final String name;
    /** By each method's name and types: what it calls, as owner.name(types). */
    final Map<String, TreeSet<String>> calls = new TreeMap<>();
    final Map<String, TreeSet<Integer>> instructions = new TreeMap<>();
    private final int[] tag;
    private final int[] one;
    private final int[] other;
    private final String[] words;

    private Compiled(String name, DataInputStream in) throws IOException {
        this.name = name;
        in.readInt();
        in.readInt();
        int n = in.readUnsignedShort();
        tag = new int[n];
        one = new int[n];
        other = new int[n];
        words = new String[n];
        for (int i = 1; i < n; i++) i += constant(in, i);
        in.skipBytes(6);
        in.skipBytes(2 * in.readUnsignedShort());
        for (int i = in.readUnsignedShort(); i > 0; i--) member(in, false);
        for (int i = in.readUnsignedShort(); i > 0; i--) member(in, true);
    }

    static Compiled of(Class<?> c) throws IOException {
        try (InputStream in = c.getResourceAsStream(c.getName() + ".class")) {
            return new Compiled(c.getName(), new DataInputStream(in));
        }
    }

    /** Reads a constant; 1 if it takes two places. */
    private int constant(DataInputStream in, int i) throws IOException {
        tag[i] = in.readUnsignedByte();
        switch (tag[i]) {
            case 1: words[i] = in.readUTF(); return 0;
            case 3: case 4: in.readInt(); return 0;
            case 5: case 6: in.readLong(); return 1;
            case 7: case 8: case 16: case 19: case 20: one[i] = in.readUnsignedShort(); return 0;
            case 15: in.skipBytes(3); return 0;
            default: one[i] = in.readUnsignedShort(); other[i] = in.readUnsignedShort(); return 0;
        }
    }

    private void member(DataInputStream in, boolean isMethod) throws IOException {
        in.readUnsignedShort();
        String called = words[in.readUnsignedShort()] + words[in.readUnsignedShort()];
        for (int i = in.readUnsignedShort(); i > 0; i--) {
            String attribute = words[in.readUnsignedShort()];
            int size = in.readInt();
            if (isMethod && attribute.equals("Code")) {
                in.skipBytes(4);
                byte[] code = new byte[in.readInt()];
                in.readFully(code);
                in.skipBytes(size - 8 - code.length);
                look(called, code);
            } else {
                in.skipBytes(size);
            }
        }
    }

    private void look(String method, byte[] code) {
        TreeSet<String> called = new TreeSet<>();
        TreeSet<Integer> kinds = new TreeSet<>();
        for (int at = 0; at < code.length; at += length(code, at)) {
            int kind = code[at] & 255;
            kinds.add(kind);
            if (kind >= 182 && kind <= 185) called.add(target(two(code, at + 1)));
        }
        calls.put(method, called);
        instructions.put(method, kinds);
    }

    private String target(int constant) {
        int nameAndType = other[constant];
        return words[one[one[constant]]].replace('/', '.') + "." + words[one[nameAndType]] + words[other[nameAndType]];
    }

    private static int length(byte[] code, int at) {
        int kind = code[at] & 255;
        int table = (at / 4 + 1) * 4;
        if (kind == TABLE) return table + 12 + 4 * (four(code, table + 8) - four(code, table + 4) + 1) - at;
        if (kind == LOOKUP) return table + 8 + 8 * four(code, table + 4) - at;
        int length = kind < LENGTHS.length() ? LENGTHS.charAt(kind) - '0' : 0;
        if (length == 0) throw new IllegalStateException("an instruction that is not known: " + kind);
        return length;
    }

    private static int two(byte[] code, int at) {
        return (code[at] & 255) << 8 | code[at + 1] & 255;
    }

    private static int four(byte[] code, int at) {
        return two(code, at) << 16 | two(code, at + 2);
    }

    /** All calls among the classes' own methods, by owner.name(types). */
    static Map<String, List<String>> callsWithin(List<Compiled> classes) {
        Map<String, List<String>> all = new TreeMap<>();
        for (Compiled c : classes) for (String m : c.calls.keySet()) all.put(c.name + "." + m, new ArrayList<>());
        for (Compiled c : classes) {
            for (String m : c.calls.keySet()) for (String to : c.calls.get(m)) if (all.containsKey(to)) all.get(c.name + "." + m).add(to);
        }
        return all;
    }
}
