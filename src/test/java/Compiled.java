import java.io.DataInputStream;
import java.io.IOException;
import java.io.InputStream;
import java.util.TreeSet;

/** What a compiled class asks of the library: the members that stand in its constant pool. */
final class Compiled {
    private static final int TEXT = 1, INTEGER = 3, FLOAT = 4, LONG = 5, DOUBLE = 6, CLASS = 7, STRING = 8, FIELD = 9, METHOD = 10,
        INTERFACE_METHOD = 11, NAME_AND_TYPE = 12;

    private final int[] tags;
    private final int[] first;
    private final int[] second;
    private final String[] texts;

    private Compiled(DataInputStream in) throws IOException {
        in.skipNBytes(8);
        int many = in.readUnsignedShort();
        tags = new int[many];
        first = new int[many];
        second = new int[many];
        texts = new String[many];
        for (int i = 1; i < many; i++) {
            read(in, i);
            // A long and a double take two numbers.
            i += tags[i] == LONG || tags[i] == DOUBLE ? 1 : 0;
        }
    }

    private void read(DataInputStream in, int i) throws IOException {
        tags[i] = in.readUnsignedByte();
        switch (tags[i]) {
            case TEXT -> texts[i] = in.readUTF();
            case INTEGER, FLOAT -> in.skipNBytes(4);
            case LONG, DOUBLE -> in.skipNBytes(8);
            case CLASS, STRING -> first[i] = in.readUnsignedShort();
            case FIELD, METHOD, INTERFACE_METHOD, NAME_AND_TYPE -> {
                first[i] = in.readUnsignedShort();
                second[i] = in.readUnsignedShort();
            }
            default -> throw new IOException("made while it runs, as lambdas and joined texts are: constant " + tags[i]);
        }
    }

    /** The fields and methods of others than the class's own file, each with its class, name and type. */
    static TreeSet<String> library(Class<?> one) throws IOException {
        try (InputStream in = one.getResourceAsStream(one.getName() + ".class")) {
            return new Compiled(new DataInputStream(in)).library();
        }
    }

    private TreeSet<String> library() {
        TreeSet<String> all = new TreeSet<>();
        for (int i = 1; i < tags.length; i++) {
            if (tags[i] == FIELD || tags[i] == METHOD || tags[i] == INTERFACE_METHOD) {
                String owner = texts[first[first[i]]];
                if (!owner.startsWith("WordConcordance")) {
                    all.add(owner + "." + texts[first[second[i]]] + texts[second[second[i]]]);
                }
            }
        }
        return all;
    }
}
