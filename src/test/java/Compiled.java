import java.io.DataInputStream;
import java.io.IOException;
import java.io.InputStream;
import java.util.ArrayList;
import java.util.HashMap;
import java.util.List;
import java.util.Map;
import java.util.Set;
import java.util.TreeMap;
import java.util.TreeSet;

/** What the methods of compiled classes call, make and throw, read off their class files. */
final class Compiled {
    private static final int SWITCH_BY_TABLE = 170, SWITCH_BY_KEYS = 171, WIDE = 196, IINC = 132;
    private static final int FIRST_INVOKE = 182, LAST_INVOKE = 185, DYNAMIC = 186;
    private static final int NEW = 187, NEW_ARRAY = 188, NEW_ROW = 189, NEW_ROWS = 197;
    private static final int THROW = 191, CAST = 192, ENTER = 194, EXIT = 195;

    /** By class, a point, the method's name and its types: what it calls, told likewise. */
    final Map<String, Set<String>> calls = new TreeMap<>();
    final Set<String> makers = new TreeSet<>();
    final Set<String> throwers = new TreeSet<>();
    final Set<String> catchers = new TreeSet<>();
    final Set<String> casters = new TreeSet<>();
    final Set<String> dynamic = new TreeSet<>();
    private final Map<Integer, String> texts = new HashMap<>();
    private final Map<Integer, int[]> pairs = new HashMap<>();

    void add(Class<?> each) throws IOException {
        String file = each.getName() + ".class";
        try (InputStream in = each.getResourceAsStream(file)) {
            if (in == null) {
                throw new IOException("no " + file);
            }
            read(new DataInputStream(in));
        }
    }

    /** The longest chain of calls that begins with a method; its first method that it comes back to ends it. */
    List<String> deepest(String method, List<String> above) {
        List<String> longest = new ArrayList<>(above);
        longest.add(method);
        if (above.contains(method)) {
            return longest;
        }
        List<String> here = longest;
        for (String next : calls.getOrDefault(method, Set.of())) {
            if (calls.containsKey(next)) {
                List<String> chain = deepest(next, here);
                longest = chain.size() > longest.size() ? chain : longest;
            }
        }
        return longest;
    }

    /** Whether a method comes back to itself. */
    boolean recurs(String method) {
        Set<String> met = new TreeSet<>();
        List<String> open = new ArrayList<>(calls.getOrDefault(method, Set.of()));
        while (!open.isEmpty()) {
            String next = open.remove(open.size() - 1);
            if (met.add(next)) {
                open.addAll(calls.getOrDefault(next, Set.of()));
            }
        }
        return met.contains(method);
    }

    private void read(DataInputStream in) throws IOException {
        in.skipNBytes(8);
        readConstants(in);
        in.skipNBytes(2);
        String name = named(in.readUnsignedShort());
        in.skipNBytes(2);
        in.skipNBytes(2L * in.readUnsignedShort());
        int fields = in.readUnsignedShort();
        for (int i = 0; i < fields; i++) {
            in.skipNBytes(6);
            skipAttributes(in);
        }
        int methods = in.readUnsignedShort();
        for (int i = 0; i < methods; i++) {
            in.skipNBytes(2);
            String method = name + "." + texts.get(in.readUnsignedShort()) + texts.get(in.readUnsignedShort());
            calls.put(method, new TreeSet<>());
            readMethod(in, method);
        }
    }

    private void readConstants(DataInputStream in) throws IOException {
        texts.clear();
        pairs.clear();
        int constants = in.readUnsignedShort();
        for (int i = 1; i < constants; i++) {
            int tag = in.readUnsignedByte();
            switch (tag) {
                case 1 -> texts.put(i, in.readUTF());
                case 3, 4 -> in.skipNBytes(4);
                case 5, 6 -> {
                    // These alone take two numbers.
                    in.skipNBytes(8);
                    i++;
                }
                case 7, 8, 16, 19, 20 -> pairs.put(i, new int[] {in.readUnsignedShort(), 0});
                case 9, 10, 11, 12, 17, 18 -> pairs.put(i, new int[] {in.readUnsignedShort(), in.readUnsignedShort()});
                case 15 -> in.skipNBytes(3);
                default -> throw new IOException("constant " + tag);
            }
        }
    }

    private String named(int constant) {
        return texts.get(pairs.get(constant)[0]);
    }

    private String member(int constant) {
        int[] pair = pairs.get(constant);
        int[] nameAndTypes = pairs.get(pair[1]);
        return named(pair[0]) + "." + texts.get(nameAndTypes[0]) + texts.get(nameAndTypes[1]);
    }

    private static void skipAttributes(DataInputStream in) throws IOException {
        int attributes = in.readUnsignedShort();
        for (int i = 0; i < attributes; i++) {
            in.skipNBytes(2);
            in.skipNBytes(Integer.toUnsignedLong(in.readInt()));
        }
    }

    private void readMethod(DataInputStream in, String method) throws IOException {
        int attributes = in.readUnsignedShort();
        for (int i = 0; i < attributes; i++) {
            String attribute = texts.get(in.readUnsignedShort());
            int length = in.readInt();
            if (!attribute.equals("Code")) {
                in.skipNBytes(Integer.toUnsignedLong(length));
                continue;
            }
            in.skipNBytes(4);
            readCode(in.readNBytes(in.readInt()), method);
            int caught = in.readUnsignedShort();
            if (caught > 0) {
                catchers.add(method);
            }
            in.skipNBytes(8L * caught);
            skipAttributes(in);
        }
    }

    private void readCode(byte[] code, String method) {
        for (int at = 0; at < code.length; at += lengthAt(code, at)) {
            int op = code[at] & 0xFF;
            if (op >= FIRST_INVOKE && op <= LAST_INVOKE) {
                calls.get(method).add(member((code[at + 1] & 0xFF) << 8 | code[at + 2] & 0xFF));
            } else if (op == DYNAMIC) {
                dynamic.add(method);
            } else if (op == NEW || op == NEW_ARRAY || op == NEW_ROW || op == NEW_ROWS) {
                makers.add(method);
            } else if (op == THROW) {
                throwers.add(method);
            } else if (op == CAST) {
                casters.add(method);
            } else if (op == ENTER || op == EXIT) {
                catchers.add(method);
            }
        }
    }

    private static int lengthAt(byte[] code, int at) {
        int op = code[at] & 0xFF;
        int aligned = (at + 4) / 4 * 4;
        switch (op) {
            case SWITCH_BY_TABLE:
                return aligned + 12 + 4 * (intAt(code, aligned + 8) - intAt(code, aligned + 4) + 1) - at;
            case SWITCH_BY_KEYS:
                return aligned + 8 + 8 * intAt(code, aligned + 4) - at;
            case WIDE:
                return (code[at + 1] & 0xFF) == IINC ? 6 : 4;
            default:
                return plainLength(op);
        }
    }

    private static int plainLength(int op) {
        if (op == 185 || op == 186 || op == 200 || op == 201) {
            return 5;
        }
        if (op == NEW_ROWS) {
            return 4;
        }
        boolean two = op == 16 || op == 18 || op >= 21 && op <= 25 || op >= 54 && op <= 58 || op == 169 || op == NEW_ARRAY;
        boolean three = op == 17 || op == 19 || op == 20 || op == IINC || op >= 153 && op <= 168
                || op >= 178 && op <= 184 || op == NEW || op == NEW_ROW || op == CAST || op == 193 || op == 198 || op == 199;
        return two ? 2 : three ? 3 : 1;
    }

    private static int intAt(byte[] code, int at) {
        return (code[at] & 0xFF) << 24 | (code[at + 1] & 0xFF) << 16 | (code[at + 2] & 0xFF) << 8 | code[at + 3] & 0xFF;
    }
}
