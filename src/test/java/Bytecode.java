import java.io.DataInputStream;
import java.io.IOException;
import java.io.InputStream;
import java.util.ArrayList;
import java.util.LinkedHashMap;
import java.util.List;
import java.util.Map;

/** What the methods of a compiled class do, read from its class file: of each, its steps as texts. */
final class Bytecode {
    private static final int UTF8 = 1;
    private static final int LONG = 5;
    private static final int DOUBLE = 6;
    private static final String[] ARRAY_TYPES = {"", "", "", "", "boolean", "char", "float", "double", "byte", "short",
            "int", "long"};
    /** How many bytes stand behind each of the opcodes 0 to 201; the two switches (-) are measured on their own. */
    private static final String OPERANDS = "0".repeat(16) + "12122" + "11111" + "0".repeat(28) + "11111"
            + "0".repeat(73) + "2"
            + "0".repeat(20) + "2".repeat(16) + "1--000000" + "2222222" + "44" + "212" + "00" + "22" + "00-3" + "22"
            + "44";

    private final DataInputStream in;
    private final Object[] constants;
    private final Map<String, List<String>> methods = new LinkedHashMap<>();

    /** The methods of the class, by "name descriptor", each with its steps: "call ..", "new ..",
            "read array" and others. */
    static Map<String, List<String>> methodsOf(Class<?> type) throws IOException {
        String file = type.getName() + ".class";
        try (InputStream bytes = type.getResourceAsStream(file)) {
            return new Bytecode(new DataInputStream(bytes)).methods;
        }
    }

    private Bytecode(DataInputStream in) throws IOException {
        this.in = in;
        in.skipBytes(8);
        constants = new Object[in.readUnsignedShort()];
        readConstants();
        in.skipBytes(6);
        in.skipBytes(2 * in.readUnsignedShort());
        int fields = in.readUnsignedShort();
        for (int i = 0; i < fields; i++) {
            readMember(false);
        }
        int count = in.readUnsignedShort();
        for (int i = 0; i < count; i++) {
            readMember(true);
        }
    }

    private void readConstants() throws IOException {
        for (int i = 1; i < constants.length; i++) {
            int tag = in.readUnsignedByte();
            if (tag == UTF8) {
                constants[i] = in.readUTF();
            } else if (tag == LONG || tag == DOUBLE) {
                in.skipBytes(8);
                i++;
            } else if (tag == 7 || tag == 8 || tag == 16 || tag == 19 || tag == 20) {
                constants[i] = new int[] {in.readUnsignedShort()};
            } else if (tag == 15) {
                in.skipBytes(3);
            } else if (tag == 3 || tag == 4) {
                in.skipBytes(4);
            } else {
                constants[i] = new int[] {in.readUnsignedShort(), in.readUnsignedShort()};
            }
        }
    }

    private String text(int index) {
        Object constant = constants[index];
        if (constant instanceof int[]) {
            int[] parts = (int[]) constant;
            return parts.length == 1 ? text(parts[0]) : text(parts[0]) + " " + text(parts[1]);
        }
        return (String) constant;
    }

    private void readMember(boolean isMethod) throws IOException {
        in.skipBytes(2);
        String name = text(in.readUnsignedShort()) + " " + text(in.readUnsignedShort());
        List<String> steps = new ArrayList<>();
        int attributes = in.readUnsignedShort();
        for (int i = 0; i < attributes; i++) {
            String attribute = text(in.readUnsignedShort());
            byte[] content = new byte[in.readInt()];
            in.readFully(content);
            if (attribute.equals("Code")) {
                readCode(content, steps);
            }
        }
        if (isMethod) {
            methods.put(name, steps);
        }
    }

    private void readCode(byte[] content, List<String> steps) {
        int length = four(content, 4);
        for (int at = 8; at < 8 + length; at++) {
            int opcode = content[at] & 255;
            add(opcode, content, at, steps);
            at += operands(opcode, content, at);
        }
        if (two(content, 8 + length) > 0) {
            steps.add("catch");
        }
    }

    private static int operands(int opcode, byte[] content, int at) {
        int aligned = at + 1 + (3 - (at - 8) % 4);
        if (opcode == 170) {
            return aligned - at - 1 + 12 + 4 * (four(content, aligned + 8) - four(content, aligned + 4) + 1);
        }
        if (opcode == 171) {
            return aligned - at - 1 + 8 + 8 * four(content, aligned + 4);
        }
        return OPERANDS.charAt(opcode) - '0';
    }

    private void add(int opcode, byte[] content, int at, List<String> steps) {
        if (opcode >= 182 && opcode <= 185) {
            steps.add("call " + text(two(content, at + 1)));
        } else if (opcode == 186) {
            steps.add("dynamic call");
        } else if (opcode == 187 || opcode == 189 || opcode == 197) {
            steps.add("new " + text(two(content, at + 1)));
        } else if (opcode == 188) {
            steps.add("new " + ARRAY_TYPES[content[at + 1]]);
        } else if (opcode >= 46 && opcode <= 53) {
            steps.add("read array");
        } else if (opcode >= 79 && opcode <= 86) {
            steps.add("write array");
        } else if (opcode >= 108 && opcode <= 115) {
            steps.add(opcode == 110 || opcode == 111 ? "divide parts" : opcode <= 111 ? "divide" : "rest");
        } else if (opcode == 191) {
            steps.add("throw");
        } else if (opcode == 192) {
            steps.add("cast");
        } else if (opcode == 194) {
            steps.add("lock");
        }
    }

    private static int two(byte[] content, int at) {
        return (content[at] & 255) << 8 | content[at + 1] & 255;
    }

    private static int four(byte[] content, int at) {
        return two(content, at) << 16 | two(content, at + 2);
    }
}
