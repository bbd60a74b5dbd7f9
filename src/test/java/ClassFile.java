import java.io.DataInputStream;
import java.io.IOException;
import java.io.InputStream;
import java.util.ArrayList;
import java.util.List;

/** A compiled class, read as far as ClassFilesTest asks about it. */
final class ClassFile {
    static final int INVOKEDYNAMIC = 186;
    private static final int GETSTATIC = 178;
    private static final int INVOKEVIRTUAL = 182;
    private static final int INVOKEINTERFACE = 185;
    private static final int TABLESWITCH = 170;
    private static final int LOOKUPSWITCH = 171;
    private static final int WIDE = 196;
    private static final int WIDE_INCREMENT = 132;
    /** Operations from the first to the last number have this length; the rest are 1 long or tell it themselves. */
    private static final int[][] LENGTHS = {{16, 16, 2}, {17, 17, 3}, {18, 18, 2}, {19, 20, 3}, {21, 25, 2},
        {54, 58, 2}, {132, 132, 3}, {153, 168, 3}, {169, 169, 2}, {GETSTATIC, 184, 3}, {INVOKEINTERFACE, 186, 5},
        {187, 187, 3}, {188, 188, 2}, {189, 189, 3}, {192, 193, 3}, {197, 197, 4}, {198, 199, 3}, {200, 201, 5}};

    /** A method with the operations it is made of and the methods it calls, each told as "class.name:descriptor". */
    record Method(String name, String descriptor, List<Integer> operations, List<String> calls, int catches) {
    }

    final String name;
    final List<Method> methods = new ArrayList<>();
    private final int[] tags;
    private final int[] values;
    private final String[] texts;

    ClassFile(String name) throws IOException {
        this.name = name;
        try (InputStream raw = ClassFile.class.getResourceAsStream("/" + name + ".class");
                DataInputStream in = new DataInputStream(raw)) {
            in.readInt();
            in.readInt();
            int size = in.readUnsignedShort();
            tags = new int[size];
            values = new int[size];
            texts = new String[size];
            readConstants(in, size);
            skip(in, 6);
            skip(in, 2 * in.readUnsignedShort());
            for (int fields = in.readUnsignedShort(); fields > 0; fields--) {
                skip(in, 6);
                skipAttributes(in);
            }
            for (int count = in.readUnsignedShort(); count > 0; count--) {
                readMethod(in);
            }
        }
    }

    private void readConstants(DataInputStream in, int size) throws IOException {
        for (int i = 1; i < size; i++) {
            tags[i] = in.readUnsignedByte();
            switch (tags[i]) {
                case 1 -> texts[i] = in.readUTF();
                case 7, 8, 16, 19, 20 -> values[i] = in.readUnsignedShort();
                case 15 -> skip(in, 3);
                case 5, 6 -> {
                    skip(in, 8);
                    i++;
                }
                default -> values[i] = in.readInt();
            }
        }
    }

    /** The stream's own way to skip may skip fewer. */
    private static void skip(DataInputStream in, int bytes) throws IOException {
        in.readFully(new byte[bytes]);
    }

    private static void skipAttributes(DataInputStream in) throws IOException {
        for (int count = in.readUnsignedShort(); count > 0; count--) {
            skip(in, 2);
            skip(in, in.readInt());
        }
    }

    private void readMethod(DataInputStream in) throws IOException {
        skip(in, 2);
        String method = texts[in.readUnsignedShort()];
        String descriptor = texts[in.readUnsignedShort()];
        Method read = new Method(method, descriptor, List.of(), List.of(), 0);
        for (int count = in.readUnsignedShort(); count > 0; count--) {
            if (!texts[in.readUnsignedShort()].equals("Code")) {
                skip(in, in.readInt());
                continue;
            }
            skip(in, 8);
            byte[] code = new byte[in.readInt()];
            in.readFully(code);
            int catches = in.readUnsignedShort();
            skip(in, 8 * catches);
            skipAttributes(in);
            read = taken(method, descriptor, code, catches);
        }
        methods.add(read);
    }

    private Method taken(String method, String descriptor, byte[] code, int catches) {
        List<Integer> operations = new ArrayList<>();
        List<String> calls = new ArrayList<>();
        for (int at = 0; at < code.length; at += length(code, at)) {
            int operation = code[at] & 0xff;
            operations.add(operation);
            if (operation >= INVOKEVIRTUAL && operation <= INVOKEINTERFACE) {
                calls.add(called((code[at + 1] & 0xff) << 8 | code[at + 2] & 0xff));
            }
        }
        return new Method(method, descriptor, operations, calls, catches);
    }

    private String called(int reference) {
        String owner = texts[values[values[reference] >>> 16]];
        int nameAndType = values[values[reference] & 0xffff];
        return owner + "." + texts[nameAndType >>> 16] + ":" + texts[nameAndType & 0xffff];
    }

    private static int length(byte[] code, int at) {
        int operation = code[at] & 0xff;
        int table = (at + 4) / 4 * 4;
        switch (operation) {
            case TABLESWITCH:
                return table + 16 + 4 * (number(code, table + 8) - number(code, table + 4)) - at;
            case LOOKUPSWITCH:
                return table + 8 + 8 * number(code, table + 4) - at;
            case WIDE:
                return (code[at + 1] & 0xff) == WIDE_INCREMENT ? 6 : 4;
            default:
                for (int[] range : LENGTHS) {
                    if (operation >= range[0] && operation <= range[1]) {
                        return range[2];
                    }
                }
                return 1;
        }
    }

    private static int number(byte[] code, int at) {
        return (code[at] & 0xff) << 24 | (code[at + 1] & 0xff) << 16 | (code[at + 2] & 0xff) << 8 | code[at + 3] & 0xff;
    }
}
