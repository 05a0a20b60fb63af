import java.io.DataInputStream;
import java.io.IOException;
import java.io.InputStream;
import java.lang.reflect.Constructor;
import java.lang.reflect.Field;
import java.lang.reflect.Method;
import java.lang.reflect.Modifier;
import java.util.ArrayList;
import java.util.List;
import java.util.Set;
import java.util.TreeSet;

/** The face as the document writes it, and the form of LANGUAGE.md as far as class files tell it. */
public final class FormTest {
    private static final Check CHECK = new Check("FormTest");

    private static final String[] FACE = {
        "int sort(int,int,int)", "int ofSort(int,int)", "int part(int)", "int join(int,int,int)", "int net(int,int)",
        "long value(int,int)", "long ends(int,int)", "long shortly(int)", "long drawn(int,int)",
        "int within(int,int,int,int,int,int)", "int alike(int,int)", "int turned(int,int)", "long fails(int,int,int,int)",
        "int worst(int,int)", "int feed(int)", "int read()", "int print(int,int)", "int reached(int)",
        "long reach(int,int,int)", "int fewest(int,int)", "long nearest(int,int,int,int)", "int make(int,int)",
        "int points(int)", "int edge(int,int,int)", "int tell(int,int)", "long between(int,int,int)",
        "long without(int,int,int,int)", "int dearest(int,int)", "int bridges(int,int)", "int ways(int)",
        "int tray(int,int,int)", "int lay(int,int,int)", "int at(int,int)", "int shift(int,int,int,int,int)", "int image()",
        "int back()", "int count(int)"};

    private static final Set<String> LIBRARY = Set.of("java/lang/Object.<init>", "java/lang/System.arraycopy",
        "java/util/Arrays.fill", "java/lang/Math.min", "java/lang/Math.max", "java/lang/Math.abs", "java/lang/Integer.bitCount");

    public static void main(String[] args) throws IOException {
        face();
        constants();
        classesInside();
        library();
        CHECK.end();
    }

    private static void face() {
        Set<String> due = new TreeSet<>(List.of(FACE));
        Set<String> got = new TreeSet<>();
        for (Method m : WishedResistor.class.getDeclaredMethods()) {
            if (Modifier.isPrivate(m.getModifiers())) {
                for (String f : FACE) {
                    CHECK.due(m.getName() + " is private, but a public name", f.contains(" " + m.getName() + "(") ? 1 : 0, 0);
                }
            } else if (!m.isSynthetic()) {
                CHECK.due(m.getName() + " is public", m.getModifiers(), Modifier.PUBLIC);
                got.add(signature(m));
            }
        }
        CHECK.text("the face", got.toString(), due.toString());
        CHECK.due("the class", WishedResistor.class.getModifiers(), Modifier.PUBLIC | Modifier.FINAL);
        Constructor<?>[] makers = WishedResistor.class.getDeclaredConstructors();
        CHECK.due("one constructor", makers.length, 1);
        CHECK.due("it takes nothing", makers[0].getParameterCount(), 0);
        CHECK.due("it is public", makers[0].getModifiers(), Modifier.PUBLIC);
    }

    private static String signature(Method m) {
        StringBuilder text = new StringBuilder(m.getReturnType().getName()).append(' ').append(m.getName()).append('(');
        String comma = "";
        for (Class<?> c : m.getParameterTypes()) {
            text.append(comma).append(c.getName());
            comma = ",";
        }
        return text.append(')').toString();
    }

    private static void constants() {
        CHECK.due("BAD", WishedResistor.BAD, -1);
        CHECK.due("NOT", WishedResistor.NOT, -2);
        CHECK.due("FULL", WishedResistor.FULL, -3);
        CHECK.due("STATE", WishedResistor.STATE, -5);
        CHECK.due("LONG", WishedResistor.LONG, -7);
        CHECK.due("VOID", WishedResistor.VOID, 0x8000000000000000L);
        List<String> open = new ArrayList<>();
        for (Field f : WishedResistor.class.getDeclaredFields()) {
            if (!Modifier.isPrivate(f.getModifiers())) {
                open.add(f.getName());
                CHECK.due(f.getName(), f.getModifiers(), Modifier.PUBLIC | Modifier.STATIC | Modifier.FINAL);
            }
        }
        CHECK.text("open fields", open.toString(), "[BAD, NOT, FULL, STATE, LONG, VOID]");
    }

    private static void classesInside() {
        Class<?>[] inside = WishedResistor.class.getDeclaredClasses();
        CHECK.due("at most twelve classes", inside.length < 12 ? 1 : 0, 1);
        for (Class<?> c : inside) {
            CHECK.due(c + " is static, not public", c.getModifiers() & (Modifier.STATIC | Modifier.PUBLIC | Modifier.PROTECTED),
                Modifier.STATIC);
            int fields = 0;
            for (Field f : c.getDeclaredFields()) {
                boolean isStatic = Modifier.isStatic(f.getModifiers());
                fields += isStatic ? 0 : 1;
                CHECK.due(c + "." + f.getName() + " static but not final", isStatic && !Modifier.isFinal(f.getModifiers()) ? 1 : 0, 0);
            }
            CHECK.due(c + " has at most twenty fields", fields <= 20 ? 1 : 0, 1);
            for (Method m : c.getDeclaredMethods()) {
                CHECK.due(c + "." + m.getName() + " takes at most seven", m.getParameterCount() <= 7 ? 1 : 0, 1);
            }
        }
    }

    private static void library() throws IOException {
        List<String> names = new ArrayList<>();
        names.add("WishedResistor");
        for (Class<?> c : WishedResistor.class.getDeclaredClasses()) {
            names.add(c.getName());
        }
        for (String name : names) {
            try (InputStream in = FormTest.class.getResourceAsStream(name + ".class")) {
                for (String used : usedBy(new DataInputStream(in))) {
                    boolean isOwn = used.startsWith("WishedResistor") || used.startsWith("[");
                    CHECK.due(name + " uses " + used, isOwn || LIBRARY.contains(used) ? 1 : 0, 1);
                }
            }
        }
    }

    /** The methods and fields that a class file's constant pool names. */
    private static List<String> usedBy(DataInputStream in) throws IOException {
        in.skipBytes(8);
        int count = in.readUnsignedShort();
        String[] texts = new String[count];
        int[] one = new int[count];
        int[] other = new int[count];
        List<Integer> members = new ArrayList<>();
        for (int i = 1; i < count; i++) {
            int tag = in.readUnsignedByte();
            switch (tag) {
                case 1: texts[i] = in.readUTF(); break;
                case 3: case 4: in.readInt(); break;
                case 5: case 6: in.readLong(); i++; break;
                case 7: case 8: case 16: case 19: case 20: one[i] = in.readUnsignedShort(); break;
                case 9: case 10: case 11: members.add(i); one[i] = in.readUnsignedShort(); other[i] = in.readUnsignedShort(); break;
                case 12: one[i] = in.readUnsignedShort(); other[i] = in.readUnsignedShort(); break;
                default: CHECK.due("a constant of kind " + tag + ", as for lambdas and joined texts", tag, 0); return List.of();
            }
        }
        List<String> used = new ArrayList<>();
        for (int i : members) {
            used.add(texts[one[one[i]]] + "." + texts[one[other[i]]]);
        }
        return used;
    }
}
