import java.io.IOException;
import java.lang.reflect.Constructor;
import java.lang.reflect.Field;
import java.lang.reflect.Method;
import java.lang.reflect.Modifier;
import java.nio.file.Files;
import java.nio.file.Path;
import java.util.ArrayList;
import java.util.List;
import java.util.Set;
import java.util.TreeSet;
import java.util.regex.Matcher;
import java.util.regex.Pattern;

/** Holds the class against the face of the document and against those rules of LANGUAGE.md that can be read off. */
public final class LanguageTest {
    private static final String FACE = "feed(int,int,int,int,int):int end(int):int river():int rule():int force(int):int "
        + "cell(int,int):int scrap(int,int):int day():int drop(int,int):int tear(int):int dam(int,boolean):boolean "
        + "net(int,int):int undo():int ahead(int,int,int):int mouth(int,int):int fleet(int,int):int "
        + "put(int,int,int,int):int rows(int,int):int seen(int,int,int):int gates(int,int):int round(int,int):int "
        + "share(int,int):int seed(int):int years(int,int,int):int count(int):int image(int):int back(int):int";
    private static int wrong = 0;

    private LanguageTest() {
    }

    private static void complain(String what) {
        wrong++;
        System.out.println(what);
    }

    public static void main(String[] args) throws IOException {
        checkFace();
        for (Class<?> inside : PaperRiver.class.getDeclaredClasses()) {
            checkInside(inside);
        }
        if (PaperRiver.class.getDeclaredClasses().length + 1 > 12) {
            complain("more than twelve classes");
        }
        String source = Files.readString(Path.of("src/main/java/PaperRiver.java"));
        checkWords(withoutTexts(source));
        checkLengths(source.split("\n"));
        System.out.println(wrong == 0 ? "the rules are kept" : wrong + " rules are broken");
        if (wrong != 0) {
            System.exit(1);
        }
    }

    private static void checkFace() {
        Set<String> due = new TreeSet<>(List.of(FACE.split(" ")));
        Set<String> found = new TreeSet<>();
        Set<String> publicNames = new TreeSet<>();
        for (Method method : PaperRiver.class.getDeclaredMethods()) {
            if (!Modifier.isPrivate(method.getModifiers())) {
                found.add(signature(method));
                publicNames.add(method.getName());
            }
        }
        if (!due.equals(found)) {
            complain("the face is " + found);
        }
        for (Method method : allMethods()) {
            if (!Modifier.isPublic(method.getModifiers()) && publicNames.contains(method.getName())) {
                complain(method + " bears the name of a public method");
            }
        }
        for (Field field : PaperRiver.class.getDeclaredFields()) {
            if (!Modifier.isPrivate(field.getModifiers()) && !field.getName().equals("NONE")) {
                complain(field + " is not private");
            }
            checkStatic(field);
        }
        Constructor<?>[] constructors = PaperRiver.class.getDeclaredConstructors();
        if (constructors.length != 1 || constructors[0].getParameterCount() != 0
                || !Modifier.isFinal(PaperRiver.class.getModifiers())) {
            complain("the class is not as told");
        }
    }

    private static List<Method> allMethods() {
        List<Method> all = new ArrayList<>(List.of(PaperRiver.class.getDeclaredMethods()));
        for (Class<?> inside : PaperRiver.class.getDeclaredClasses()) {
            all.addAll(List.of(inside.getDeclaredMethods()));
        }
        return all;
    }

    private static String signature(Method method) {
        StringBuilder s = new StringBuilder(method.getName()).append("(");
        for (Class<?> type : method.getParameterTypes()) {
            s.append(s.charAt(s.length() - 1) == '(' ? "" : ",").append(type.getName());
        }
        return s.append("):").append(method.getReturnType().getName()).toString();
    }

    private static void checkInside(Class<?> inside) {
        if (!Modifier.isStatic(inside.getModifiers()) || Modifier.isPublic(inside.getModifiers())) {
            complain(inside + " is not static, or public");
        }
        int own = 0;
        for (Field field : inside.getDeclaredFields()) {
            own += Modifier.isStatic(field.getModifiers()) ? 0 : 1;
            checkStatic(field);
        }
        if (own > 20) {
            complain(inside + " has more than twenty fields");
        }
        for (Method method : inside.getDeclaredMethods()) {
            if (method.getParameterCount() > 7) {
                complain(method + " has more than seven parameters");
            }
        }
    }

    private static void checkStatic(Field field) {
        if (Modifier.isStatic(field.getModifiers()) && !Modifier.isFinal(field.getModifiers())) {
            complain(field + " is static, not final");
        }
    }

    private static String withoutTexts(String source) {
        return source.replaceAll("(?s)/\\*.*?\\*/", "").replaceAll("//[^\n]*", "").replaceAll("\"[^\"\n]*\"", "\"\"")
            .replaceAll("'[^'\n]+'", "' '");
    }

    private static void checkWords(String code) {
        String[] forbidden = {"throw", "throws", "try", "catch", "finally", "synchronized", "assert", "instanceof Integer",
            "Object", "hashCode", "toString", "var", "Random", "Exception", "volatile", "native", "yield", "package",
            "double", "float", "Exact"};
        for (String word : forbidden) {
            if (Pattern.compile("\\b" + word + "\\b").matcher(code).find()) {
                complain("the word " + word + " stands there");
            }
        }
        for (String sign : new String[] {"->", "::", "@", "while (true)", "for (;;)", "static {", "\"\" +", "+ \"\""}) {
            if (code.contains(sign)) {
                complain("the sign " + sign + " stands there");
            }
        }
        Matcher imports = Pattern.compile("import ([^;]*);").matcher(code);
        while (imports.find()) {
            if (!Set.of("java.util.Arrays", "java.util.ArrayList", "java.util.List").contains(imports.group(1))) {
                complain(imports.group());
            }
        }
        for (char c : code.toCharArray()) {
            if (c > 126) {
                complain("a sign beyond 126");
            }
        }
    }

    private static void checkLengths(String[] lines) {
        Pattern head = Pattern.compile("^( {4}| {8})(public|private|static|[a-z]).*\\) \\{$");
        int from = -1;
        String indent = "";
        for (int i = 0; i < lines.length; i++) {
            Matcher matcher = head.matcher(lines[i]);
            if (from < 0 && matcher.find() && !lines[i].contains(" class ")) {
                from = i;
                indent = matcher.group(1);
            } else if (from >= 0 && lines[i].equals(indent + "}")) {
                if (i - from + 1 > 60) {
                    complain("from line " + (from + 1) + " on a method of more than sixty lines");
                }
                from = -1;
            }
        }
    }
}
