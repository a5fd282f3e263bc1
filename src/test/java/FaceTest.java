import java.io.IOException;
import java.lang.reflect.Array;
import java.lang.reflect.Constructor;
import java.lang.reflect.Executable;
import java.lang.reflect.Field;
import java.lang.reflect.InvocationTargetException;
import java.lang.reflect.Method;
import java.lang.reflect.Modifier;
import java.nio.file.Files;
import java.nio.file.Path;
import java.util.ArrayDeque;
import java.util.Arrays;
import java.util.Collections;
import java.util.Comparator;
import java.util.IdentityHashMap;
import java.util.List;
import java.util.Random;
import java.util.Set;
import java.util.TreeSet;
import java.util.regex.Matcher;
import java.util.regex.Pattern;

/** The face is the document's and no more; what LANGUAGE.md rules out and a test can see is not there. */
public final class FaceTest {
    private static final String SOURCE = "src/main/java/RightTurns.java";

    private final Check check = new Check();

    public static void main(String[] args) throws Exception {
        FaceTest test = new FaceTest();
        test.publicFace();
        test.classesInside();
        test.sourceText();
        test.onlyDeclared();
        test.room();
        test.check.end();
    }

    /** As the document writes it, but for the names of what a method takes. */
    private static String headOf(Method method) {
        StringBuilder head = new StringBuilder(method.getReturnType() + " " + method.getName() + "(");
        for (Class<?> type : method.getParameterTypes()) {
            head.append(head.charAt(head.length() - 1) == '(' ? "" : ", ").append(type);
        }
        head.append(")");
        for (Class<?> type : method.getExceptionTypes()) {
            head.append(head.charAt(head.length() - 1) == ')' ? " throws " : ", ").append(type.getSimpleName());
        }
        return head.toString();
    }

    private static Set<String> dueHeads() {
        Set<String> heads = new TreeSet<>();
        for (String head : Document.face()) {
            if (!head.equals("RightTurns()")) {
                heads.add(head.replaceAll("(int|boolean) \\w+(?=[,)])", "$1"));
            }
        }
        return heads;
    }

    private void publicFace() throws Exception {
        Class<?> face = RightTurns.class;
        check.due("final and public", Modifier.isFinal(face.getModifiers()) && Modifier.isPublic(face.getModifiers()), true);
        check.due("NONE", RightTurns.NONE, -1);
        Set<String> heads = new TreeSet<>();
        Set<String> names = new TreeSet<>();
        for (Method method : face.getDeclaredMethods()) {
            if (!Modifier.isPrivate(method.getModifiers())) {
                heads.add(headOf(method));
                names.add(method.getName());
                check.due(method + " is public", Modifier.isPublic(method.getModifiers()), true);
            }
        }
        check.due("the face", heads, dueHeads());
        check.due("39 methods", heads.size(), 39);
        for (Method method : face.getDeclaredMethods()) {
            boolean hidden = Modifier.isPrivate(method.getModifiers()) && names.contains(method.getName());
            check.due(method + " bears a public name", hidden, false);
        }
        for (Field field : face.getDeclaredFields()) {
            boolean isNone = field.getName().equals("NONE");
            check.due(field + " is private", Modifier.isPrivate(field.getModifiers()), !isNone);
            boolean constant = !Modifier.isStatic(field.getModifiers()) || Modifier.isFinal(field.getModifiers());
            check.due(field + " static but not final", constant, true);
        }
        Constructor<?>[] made = face.getDeclaredConstructors();
        check.due("one constructor", made.length == 1 && made[0].getParameterCount() == 0, true);
        check.due("public", Modifier.isPublic(made[0].getModifiers()), true);
    }

    private void classesInside() {
        Class<?>[] inside = RightTurns.class.getDeclaredClasses();
        check.due("twelve classes at most", inside.length <= 11, true);
        for (Class<?> one : inside) {
            int kind = one.getModifiers();
            check.due(one + " is static", Modifier.isStatic(kind), true);
            check.due(one + " is hidden", Modifier.isPublic(kind) || Modifier.isProtected(kind), false);
            long fields = Arrays.stream(one.getDeclaredFields()).filter(f -> !Modifier.isStatic(f.getModifiers())).count();
            check.due(one + " has some twenty fields at most", fields <= 20, true);
            for (Executable call : one.getDeclaredMethods()) {
                check.due(call + " takes seven at most", call.getParameterCount() <= 7, true);
            }
        }
    }

    private void sourceText() throws IOException {
        String source = Files.readString(Path.of(SOURCE));
        String code = source.replaceAll("(?s)/\\*.*?\\*/", "").replaceAll("//[^\n]*", "");
        String plain = code.replaceAll("\"[^\"]*\"", "\"\"");
        for (String word : List.of("try", "catch", "finally", "synchronized", "assert", "instanceof", "package",
                "protected", "float", "double", "var", "native", "volatile", "transient", "Exact")) {
            check.due("the word " + word, Pattern.compile("\\b" + word + "\\b").matcher(plain).find(), false);
        }
        for (String sign : List.of("->", "::", "@", "System.out", "Exact(")) {
            check.due("the sign " + sign, plain.contains(sign), false);
        }
        Matcher imports = Pattern.compile("import ([^;]*);").matcher(plain);
        while (imports.find()) {
            boolean known = List.of("java.util.Arrays", "java.util.NoSuchElementException").contains(imports.group(1));
            check.due("import " + imports.group(1), known, true);
        }
        check.due("texts joined by +", Pattern.compile("\"\" *\\+|\\+ *\"\"").matcher(plain).find(), false);
        check.due("only signs 1 to 127", source.chars().allMatch(c -> c > 0 && c < 128), true);
        int start = 0;
        String[] lines = code.split("\n");
        for (int i = 0; i < lines.length; i++) {
            start = lines[i].matches(" {4}( {4})?(public|private|static|\\w+(\\[\\])?) .*[({]$") ? i : start;
            check.due("a method's length at line " + (i + 1), lines[i].matches(" {4}( {4})?}") && i - start > 60, false);
        }
    }

    /** Whatever is asked in whatever state: nothing is thrown but what the face declares. */
    private void onlyDeclared() throws IllegalAccessException {
        Random random = new Random(7);
        List<Method> calls = Arrays.stream(RightTurns.class.getDeclaredMethods())
                .filter(m -> Modifier.isPublic(m.getModifiers()))
                .sorted(Comparator.comparing(Method::getName)).toList();
        for (int run = 0; run < 300; run++) {
            RightTurns x = new RightTurns();
            Texts.tell(x, TownMaker.town(random));
            for (int i = 0; i < 400; i++) {
                Method call = calls.get(random.nextInt(calls.size()));
                // a town of what is on the tape is most often none: the told one is to stay for long
                if (!call.getName().equals("town") || random.nextInt(20) == 0) {
                    callOnce(x, call, random);
                }
            }
        }
    }

    private void callOnce(RightTurns x, Method call, Random random) throws IllegalAccessException {
        int[] odd = {Integer.MIN_VALUE, -1, 0, 0, 0, 1, 1, 1, 2, 2, 3, 4, 5, 6, 7, 12, 16, 48, 63, 64, 200, Integer.MAX_VALUE};
        Object[] args = new Object[call.getParameterCount()];
        for (int i = 0; i < args.length; i++) {
            boolean truth = call.getParameterTypes()[i] == boolean.class;
            args[i] = truth ? (Object) random.nextBoolean() : (Object) odd[random.nextInt(odd.length)];
        }
        try {
            call.invoke(x, args);
        } catch (InvocationTargetException e) {
            boolean declared = List.of(call.getExceptionTypes()).contains(e.getCause().getClass());
            check.due(call.getName() + Arrays.toString(args) + " throws as declared " + e.getCause(), declared, true);
        }
    }

    /** All that an object has after its dearest calls: far under the room's 7.3 million. */
    private void room() throws IllegalAccessException {
        StringBuilder text = new StringBuilder();
        for (int i = 0; i < 16; i++) {
            text.append("corner").append(i % 4).append(' ').append(i / 4).append(';');
        }
        for (int i = 0; i < 20; i++) {
            int a = i < 12 ? i / 3 * 4 + i % 3 : i - 12;
            text.append("street").append(a).append(' ').append(a + (i < 12 ? 1 : 4)).append(" 2;");
        }
        for (int i = 0; i < 10; i++) {
            text.append("box").append(i).append(';');
        }
        RightTurns full = Texts.townOf(text.toString());
        for (int corner = 0; corner < 16; corner++) {
            full.round(corner, 0);
            full.bound(corner, 0);
        }
        check.due("elements of one object", elementsOf(full) < 80000, true);
        check.due("elements of a new one", elementsOf(new RightTurns()) < 10000, true);
    }

    private static long elementsOf(Object start) throws IllegalAccessException {
        Set<Object> seen = Collections.newSetFromMap(new IdentityHashMap<>());
        ArrayDeque<Object> ahead = new ArrayDeque<>(List.of(start));
        long many = 0;
        while (!ahead.isEmpty()) {
            Object one = ahead.poll();
            if (!seen.add(one)) {
                continue;
            }
            if (one.getClass().isArray()) {
                many += Array.getLength(one);
                continue;
            }
            for (Field field : one.getClass().getDeclaredFields()) {
                field.setAccessible(true);
                if (!Modifier.isStatic(field.getModifiers())) {
                    many++;
                    Object value = field.getType().isPrimitive() ? null : field.get(one);
                    if (value != null) {
                        ahead.add(value);
                    }
                }
            }
        }
        return many;
    }
}
