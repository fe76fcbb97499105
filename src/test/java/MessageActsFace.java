import java.lang.reflect.Constructor;
import java.lang.reflect.Field;
import java.lang.reflect.Method;
import java.lang.reflect.Modifier;
import java.util.Arrays;
import java.util.Random;
import java.util.TreeSet;

/** The face is the document's and nothing else is seen; wild arguments meet only the document's exceptions. */
public final class MessageActsFace {
    private static final String[] FACE = {
        "int receive(int,int,int,int,int) IllegalArgumentException",
        "int status(int,int) IllegalArgumentException",
        "int answer(int,int) IllegalArgumentException",
        "boolean point(int)",
        "boolean fails(int,boolean)",
        "int tick(int) IllegalArgumentException",
        "int skip(int) IllegalArgumentException",
        "int cut(int) IllegalArgumentException",
        "int replay(int,int) IllegalArgumentException",
        "int look(int,int) IndexOutOfBoundsException",
        "int act(int)",
        "int dead(int)",
        "int of(int,int)",
        "int count(int)",
    };
    private static final int[] WILD = {Integer.MIN_VALUE, -1001, -1000, -1, 0, 1, 2, 3, 4, 5, 15, 16, 24, 25, 96,
        1000, 1001, 100000, 100001, Integer.MAX_VALUE};

    private static int wrong = 0;

    private static void due(String what, Object got, Object want) {
        if (!got.equals(want)) {
            wrong++;
            System.out.println(what + " is " + got + ", due is " + want);
        }
    }

    private static String written(Method method) {
        StringBuilder text = new StringBuilder();
        text.append(method.getReturnType().getSimpleName()).append(' ').append(method.getName()).append('(');
        for (int i = 0; i < method.getParameterCount(); i++) {
            text.append(i == 0 ? "" : ",").append(method.getParameterTypes()[i].getSimpleName());
        }
        text.append(')');
        for (Class<?> thrown : method.getExceptionTypes()) {
            text.append(' ').append(thrown.getSimpleName());
        }
        return text.toString();
    }

    private static void faceIsTheDocuments() {
        TreeSet<String> seen = new TreeSet<>();
        TreeSet<String> names = new TreeSet<>();
        for (Method method : MessageActs.class.getDeclaredMethods()) {
            if (!Modifier.isPrivate(method.getModifiers())) {
                seen.add(written(method));
                names.add(method.getName());
                due(method.getName() + " is public alone", method.getModifiers(), Modifier.PUBLIC);
            }
        }
        due("the methods seen", seen, new TreeSet<>(Arrays.asList(FACE)));
        for (Method method : MessageActs.class.getDeclaredMethods()) {
            boolean hidden = Modifier.isPrivate(method.getModifiers());
            due("a private " + method.getName(), hidden && names.contains(method.getName()), false);
        }
        due("class modifiers", MessageActs.class.getModifiers(), Modifier.PUBLIC | Modifier.FINAL);
        due("superclass", MessageActs.class.getSuperclass(), Object.class);
    }

    private static void fieldsAndConstructors() {
        TreeSet<String> fields = new TreeSet<>();
        for (Field field : MessageActs.class.getDeclaredFields()) {
            int modifiers = field.getModifiers();
            if (!Modifier.isPrivate(modifiers)) {
                fields.add(Modifier.toString(modifiers) + " " + field.getType() + " " + field.getName());
            }
            due("static but not final: " + field.getName(),
                    Modifier.isStatic(modifiers) && !Modifier.isFinal(modifiers), false);
        }
        due("the fields seen", fields.toString(), "[public static final int NONE]");
        Constructor<?>[] constructors = MessageActs.class.getDeclaredConstructors();
        due("constructors", constructors.length, 1);
        due("constructor is public", constructors[0].getModifiers(), Modifier.PUBLIC);
        due("constructor's parameters", constructors[0].getParameterCount(), 0);
    }

    /** Behind the 512th call the answers are free, but no call may ever throw by itself. */
    private static void wildCalls() {
        Random random = new Random(1);
        for (int run = 0; run < 300; run++) {
            MessageActs x = new MessageActs();
            for (int call = 0; call < 2000; call++) {
                int[] a = new int[5];
                for (int i = 0; i < a.length; i++) {
                    a[i] = WILD[random.nextInt(WILD.length)];
                }
                int kind = random.nextInt(14);
                String got = thrownBy(x, kind, a);
                String may = kind == 9 ? "IndexOutOfBoundsException"
                        : kind <= 2 || kind >= 5 && kind <= 8 ? "IllegalArgumentException" : "nothing";
                if (!got.equals("nothing")) {
                    due("call of kind " + kind + " with " + Arrays.toString(a), got, may);
                }
            }
        }
    }

    private static String thrownBy(MessageActs x, int kind, int[] a) {
        try {
            switch (kind) {
                case 0: x.receive(a[0], a[1], a[2], a[3], a[4]); break;
                case 1: x.status(a[0], a[1]); break;
                case 2: x.answer(a[0], a[1]); break;
                case 3: x.point(a[0]); break;
                case 4: x.fails(a[0], a[1] > 0); break;
                case 5: x.tick(a[0]); break;
                case 6: x.skip(a[0]); break;
                case 7: x.cut(a[0]); break;
                case 8: x.replay(a[0], a[1]); break;
                case 9: x.look(a[0], a[1]); break;
                case 10: x.act(a[0]); break;
                case 11: x.dead(a[0]); break;
                case 12: x.of(a[0], a[1]); break;
                default: x.count(a[0]); break;
            }
            return "nothing";
        } catch (Throwable e) {
            return e.getClass().getSimpleName();
        }
    }

    public static void main(String[] args) {
        faceIsTheDocuments();
        fieldsAndConstructors();
        wildCalls();
        System.out.println("the face: " + wrong + " wrong");
        if (wrong != 0) {
            System.exit(1);
        }
    }
}
