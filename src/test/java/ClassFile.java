import java.io.ByteArrayInputStream;
import java.io.DataInputStream;
import java.io.IOException;
import java.util.ArrayList;
import java.util.List;

/** What the methods of a compiled class do: which ones they call, and what they make, throw, catch and read. */
final class ClassFile {
    private static final int[] ONE_BYTE_OPERAND = {16, 18, 21, 22, 23, 24, 25, 54, 55, 56, 57, 58, 169, 188};
    private static final int TABLE_SWITCH = 170;
    private static final int LOOKUP_SWITCH = 171;
    private static final int WIDE = 196;
    private static final int IINC = 132;

    /** One method: its class and name with its type, its access flags, and what its instructions name. */
    static final class Body {
        final String name;
        final int access;
        final List<String> calls = new ArrayList<>();
        final List<String> made = new ArrayList<>();
        final List<String> others = new ArrayList<>();
        int handlers;

        Body(String name, int access) {
            this.name = name;
            this.access = access;
        }

        boolean isConstructor() {
            return name.contains(".<init>(");
        }
    }

    private final DataInputStream input;
    private String owner;
    private int[] tags;
    private Object[] pool;
    private final List<Body> bodies = new ArrayList<>();

    private ClassFile(byte[] bytes) {
        input = new DataInputStream(new ByteArrayInputStream(bytes));
    }

    static List<Body> bodiesOf(byte[] bytes) throws IOException {
        ClassFile file = new ClassFile(bytes);
        file.readPool();
        file.readMembers();
        return file.bodies;
    }

    private void readPool() throws IOException {
        input.skipBytes(8);
        int count = input.readUnsignedShort();
        tags = new int[count];
        pool = new Object[count];
        for (int k = 1; k < count; k++) {
            tags[k] = input.readUnsignedByte();
            switch (tags[k]) {
                case 1 -> pool[k] = input.readUTF();
                case 3, 4 -> pool[k] = input.readInt();
                // Long and double numbers take two places.
                case 5, 6 -> pool[k++] = input.readLong();
                case 7, 8, 16, 19, 20 -> pool[k] = new int[] {input.readUnsignedShort()};
                case 15 -> pool[k] = new int[] {input.readUnsignedByte(), input.readUnsignedShort()};
                case 9, 10, 11, 12, 17, 18 -> pool[k] = new int[] {input.readUnsignedShort(), input.readUnsignedShort()};
                default -> throw new IOException("constant of kind " + tags[k]);
            }
        }
    }

    private int part(int index, int which) {
        return ((int[]) pool[index])[which];
    }

    private String className(int index) {
        return (String) pool[part(index, 0)];
    }

    /** A field or method of a class, with its type. */
    private String member(int index) {
        int nameAndType = part(index, 1);
        return className(part(index, 0)) + "." + pool[part(nameAndType, 0)] + pool[part(nameAndType, 1)];
    }

    private void readMembers() throws IOException {
        input.readUnsignedShort();
        owner = className(input.readUnsignedShort());
        input.readUnsignedShort();
        input.skipBytes(2 * input.readUnsignedShort());
        for (int fields = input.readUnsignedShort(); fields > 0; fields--) {
            input.skipBytes(6);
            for (int attributes = input.readUnsignedShort(); attributes > 0; attributes--) {
                input.skipBytes(2);
                input.skipBytes(input.readInt());
            }
        }
        for (int methods = input.readUnsignedShort(); methods > 0; methods--) {
            readMethod();
        }
    }

    private void readMethod() throws IOException {
        int access = input.readUnsignedShort();
        String name = (String) pool[input.readUnsignedShort()];
        Body body = new Body(owner + "." + name + pool[input.readUnsignedShort()], access);
        for (int attributes = input.readUnsignedShort(); attributes > 0; attributes--) {
            String attribute = (String) pool[input.readUnsignedShort()];
            byte[] content = input.readNBytes(input.readInt());
            if (attribute.equals("Code")) {
                readCode(body, content);
            }
        }
        bodies.add(body);
    }

    private static int shortAt(byte[] bytes, int at) {
        return (bytes[at] & 255) << 8 | bytes[at + 1] & 255;
    }

    private static int intAt(byte[] bytes, int at) {
        return shortAt(bytes, at) << 16 | shortAt(bytes, at + 2);
    }

    private void readCode(Body body, byte[] content) {
        int length = intAt(content, 4);
        byte[] code = new byte[length];
        System.arraycopy(content, 8, code, 0, length);
        body.handlers = shortAt(content, 8 + length);
        for (int at = 0; at < length; at += lengthAt(code, at)) {
            int operation = code[at] & 255;
            switch (operation) {
                case 182, 183, 184, 185 -> body.calls.add(member(shortAt(code, at + 1)));
                case 187 -> body.made.add(className(shortAt(code, at + 1)));
                case 188, 189, 197 -> body.made.add("array");
                case 178 -> body.others.add("static " + member(shortAt(code, at + 1)));
                case 179 -> body.others.add("set static " + member(shortAt(code, at + 1)));
                case 186 -> body.others.add("invokedynamic");
                case 191 -> body.others.add("throw");
                case 192 -> body.others.add("cast");
                case 193 -> body.others.add("instanceof");
                case 194, 195 -> body.others.add("monitor");
                case 108, 109, 112, 113 -> body.others.add("divide");
                default -> { }
            }
        }
    }

    private static int lengthAt(byte[] code, int at) {
        int operation = code[at] & 255;
        int table = (at / 4 + 1) * 4;
        switch (operation) {
            case TABLE_SWITCH:
                return table + 12 + 4 * (intAt(code, table + 8) - intAt(code, table + 4) + 1) - at;
            case LOOKUP_SWITCH:
                return table + 8 + 8 * intAt(code, table + 4) - at;
            case WIDE:
                return (code[at + 1] & 255) == IINC ? 6 : 4;
            case 185, 186, 200, 201:
                return 5;
            case 197:
                return 4;
            default:
                break;
        }
        for (int one : ONE_BYTE_OPERAND) {
            if (operation == one) {
                return 2;
            }
        }
        boolean two = operation == 17 || operation == 19 || operation == 20 || operation == IINC || operation >= 153 && operation <= 168
            || operation >= 178 && operation <= 184 || operation == 187 || operation == 189 || operation == 192 || operation == 193
            || operation == 198 || operation == 199;
        return two ? 3 : 1;
    }
}
