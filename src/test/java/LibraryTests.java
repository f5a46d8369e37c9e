import java.io.DataInputStream;
import java.io.IOException;
import java.nio.file.Files;
import java.nio.file.Path;
import java.util.Set;
import java.util.TreeSet;

/**
 * Rules 4, 6, 10 of LANGUAGE.md: the classes, as they are compiled, name no method of the Java library but these,
 * none of its fields, and nothing that is linked as it runs (texts joined by +, lambdas).
 */
public final class LibraryTests {
    private static final int TEXT = 1, INT = 3, FLOAT = 4, LONG = 5, DOUBLE = 6, CLASS = 7, STRING = 8;
    private static final int FIELD = 9, METHOD = 10, INTERFACE_METHOD = 11;
    private static final int HANDLE = 15, METHOD_TYPE = 16, DYNAMIC = 17, INVOKE_DYNAMIC = 18;

    /** What the program uses; LANGUAGE.md lists more, that may be put here when it is used. */
    private static final Set<String> ALLOWED = Set.of(
        "java/lang/Object.<init>()V", "java/lang/String.indexOf(I)I", "java/lang/Math.max(II)I",
        "java/lang/Integer.bitCount(I)I", "java/lang/System.arraycopy(Ljava/lang/Object;ILjava/lang/Object;II)V",
        "java/util/Arrays.fill([II)V", "java/util/Arrays.fill([JJ)V");
    private static final Due DUE = new Due();

    public static void main(String[] args) throws Exception {
        Path place = Path.of(ClimbedFruit.class.getProtectionDomain().getCodeSource().getLocation().toURI());
        Set<String> used = new TreeSet<>();
        int classes = 0;
        try (var files = Files.newDirectoryStream(place, "ClimbedFruit{,$*}.class")) {
            for (Path file : files) {
                new Constants(file).addUsed(used);
                classes++;
            }
        }
        DUE.is(0, "classes that were read", classes, ClimbedFruit.class.getDeclaredClasses().length + 1);
        DUE.is(0, "each class names that of all objects", used.contains("java/lang/Object.<init>()V") ? 1 : 0, 1);
        for (String one : used) {
            DUE.is(0, "LANGUAGE.md: the program uses " + one, ALLOWED.contains(one) ? 0 : 1, 0);
        }
        DUE.end("LibraryTests");
    }

    /** The table of constants of a compiled class: what it names outside of itself stands there. */
    private static final class Constants {
        private final Path file;
        private final int[] tags;
        private final int[] first;
        private final int[] second;
        private final String[] texts;

        Constants(Path file) throws IOException {
            this.file = file;
            try (DataInputStream in = new DataInputStream(Files.newInputStream(file))) {
                // Ahead of the table stand a sign of what the file is, and its version.
                in.readInt();
                in.readInt();
                int n = in.readUnsignedShort();
                tags = new int[n];
                first = new int[n];
                second = new int[n];
                texts = new String[n];
                for (int k = 1; k < n; k++) {
                    read(in, k);
                    // These two take two places.
                    k += tags[k] == LONG || tags[k] == DOUBLE ? 1 : 0;
                }
            }
        }

        private void read(DataInputStream in, int k) throws IOException {
            tags[k] = in.readUnsignedByte();
            switch (tags[k]) {
                case TEXT: texts[k] = in.readUTF(); break;
                case INT: case FLOAT: in.readInt(); break;
                case LONG: case DOUBLE: in.readLong(); break;
                case CLASS: case STRING: case METHOD_TYPE: first[k] = in.readUnsignedShort(); break;
                case HANDLE: in.readUnsignedByte(); first[k] = in.readUnsignedShort(); break;
                default: first[k] = in.readUnsignedShort(); second[k] = in.readUnsignedShort(); break;
            }
        }

        void addUsed(Set<String> used) {
            for (int k = 1; k < tags.length; k++) {
                switch (tags[k]) {
                    case FIELD: case METHOD: case INTERFACE_METHOD: addNamed(k, used); break;
                    case HANDLE: case METHOD_TYPE: case DYNAMIC: case INVOKE_DYNAMIC:
                        used.add("what is linked as it runs, in " + file.getFileName());
                        break;
                    default: break;
                }
            }
        }

        private void addNamed(int k, Set<String> used) {
            String owner = texts[first[first[k]]];
            if (!owner.startsWith("ClimbedFruit")) {
                used.add(owner + "." + texts[first[second[k]]] + texts[second[second[k]]]);
            }
        }
    }
}
