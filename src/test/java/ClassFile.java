import java.io.DataInputStream;
import java.io.IOException;
import java.io.InputStream;
import java.util.Set;
import java.util.TreeSet;

/** What a compiled class names beyond itself, as its table of constants tells it. */
final class ClassFile {
    private static final int UTF8 = 1, INTEGER = 3, FLOAT = 4, LONG = 5, DOUBLE = 6, CLASS = 7, FIELD = 9, METHOD = 10;
    private static final int OF_INTERFACE = 11, NAME_AND_TYPE = 12, HANDLE = 15, DYNAMIC = 17, INVOKE_DYNAMIC = 18;

    private final int[] kinds;
    private final int[] firsts;
    private final int[] seconds;
    private final String[] words;

    private ClassFile(int count) {
        kinds = new int[count];
        firsts = new int[count];
        seconds = new int[count];
        words = new String[count];
    }

    static ClassFile of(Class<?> type) throws IOException {
        try (InputStream bytes = type.getResourceAsStream(type.getName() + ".class")) {
            DataInputStream in = new DataInputStream(bytes);
            in.skipBytes(8);
            ClassFile file = new ClassFile(in.readUnsignedShort());
            for (int i = 1; i < file.kinds.length; i++) {
                file.read(in, i);
                // These two take up two places each.
                i += file.kinds[i] == LONG || file.kinds[i] == DOUBLE ? 1 : 0;
            }
            return file;
        }
    }

    private void read(DataInputStream in, int at) throws IOException {
        kinds[at] = in.readUnsignedByte();
        switch (kinds[at]) {
            case UTF8:
                words[at] = in.readUTF();
                break;
            case LONG: case DOUBLE:
                in.readLong();
                break;
            case INTEGER: case FLOAT:
                in.readInt();
                break;
            case HANDLE:
                in.skipBytes(3);
                break;
            case FIELD: case METHOD: case OF_INTERFACE: case NAME_AND_TYPE: case DYNAMIC: case INVOKE_DYNAMIC:
                firsts[at] = in.readUnsignedShort();
                seconds[at] = in.readUnsignedShort();
                break;
            default:
                firsts[at] = in.readUnsignedShort();
        }
    }

    /** The members of other classes that it uses, such as "java/util/ArrayList.get". */
    Set<String> foreignMembers(String own) {
        Set<String> members = new TreeSet<>();
        for (int i = 1; i < kinds.length; i++) {
            if (kinds[i] == FIELD || kinds[i] == METHOD || kinds[i] == OF_INTERFACE) {
                String owner = words[firsts[firsts[i]]];
                if (!owner.equals(own) && !owner.startsWith(own + "$")) {
                    members.add(owner + "." + words[firsts[seconds[i]]]);
                }
            }
        }
        return members;
    }

    /** The classes that it names, its own ones and arrays too. */
    Set<String> classes() {
        Set<String> named = new TreeSet<>();
        for (int i = 1; i < kinds.length; i++) {
            if (kinds[i] == CLASS) {
                named.add(words[firsts[i]]);
            }
        }
        return named;
    }

    /** So are lambdas made, references to methods, and texts joined by a plus. */
    boolean isDynamic() {
        for (int kind : kinds) {
            if (kind == DYNAMIC || kind == INVOKE_DYNAMIC) {
                return true;
            }
        }
        return false;
    }
}
