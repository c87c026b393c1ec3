import java.io.IOException;
import java.lang.reflect.Constructor;
import java.lang.reflect.Field;
import java.lang.reflect.Method;
import java.lang.reflect.Modifier;
import java.nio.file.Files;
import java.nio.file.Path;
import java.util.Set;
import java.util.TreeSet;
import java.util.regex.Matcher;
import java.util.regex.Pattern;

/** The public face of the document, and rules of LANGUAGE.md that reflection or a look at the source can tell. */
public final class FaceTest {
    private static final Due due = new Due("FaceTest");
    private static final String[] FACE = {
        "int feed(long,int)", "int pack()", "int place()", "int retire(int)", "int kind(int,int)", "int body(int,int,int)",
        "int overrides(int,int,int)", "int chosen(int,int,int)", "int resolved(int,int,boolean)", "int count(int)",
        "int make(int,int)", "int charge(int,int,int)", "int pour(int,int,int)", "int act(int,int)", "int outcome(int)",
        "int ran(int,int)", "int said(int)", "int apparatus(int,int)", "long all(int)", "int record(int,int)", "int undo()",
        "int found(int)"};

    public static void main(String[] args) throws IOException {
        Class<?> house = StillHouse.class;
        due.is("public and final", house.getModifiers() & (Modifier.PUBLIC | Modifier.FINAL),
            Modifier.PUBLIC | Modifier.FINAL);
        Constructor<?>[] constructors = house.getDeclaredConstructors();
        due.is("constructors", constructors.length, 1);
        due.is("constructor's parameters", constructors[0].getParameterCount(), 0);
        due.is("public constructor", constructors[0].getModifiers(), Modifier.PUBLIC);
        methods(house);
        fields(house);
        for (Class<?> inside : house.getDeclaredClasses()) {
            due.is("static " + inside, inside.getModifiers() & Modifier.STATIC, Modifier.STATIC);
            noNameOfTheFace(inside);
            fields(inside);
        }
        due.is("too many classes", Math.max(house.getDeclaredClasses().length, 12), 12);
        source(Files.readString(Path.of("src/main/java/StillHouse.java")));
        due.end();
    }

    private static void methods(Class<?> house) {
        Set<String> open = new TreeSet<>();
        for (Method method : house.getDeclaredMethods()) {
            if (Modifier.isPrivate(method.getModifiers())) {
                continue;
            }
            StringBuilder form = new StringBuilder();
            form.append(method.getReturnType().getName()).append(' ').append(method.getName()).append('(');
            for (int i = 0; i < method.getParameterCount(); i++) {
                form.append(i == 0 ? "" : ",").append(method.getParameterTypes()[i].getName());
            }
            open.add(form.append(')').toString());
            due.is("public alone: " + form, method.getModifiers(), Modifier.PUBLIC);
        }
        for (String form : FACE) {
            due.is("has " + form, open.contains(form) ? 1 : 0, 1);
        }
        due.is("no more than the face", open.size(), FACE.length);
        for (Method method : house.getDeclaredMethods()) {
            if (Modifier.isPrivate(method.getModifiers())) {
                due.is("name of the face: " + method, isOfFace(method.getName()) ? 1 : 0, 0);
            }
        }
    }

    private static void noNameOfTheFace(Class<?> inside) {
        for (Method method : inside.getDeclaredMethods()) {
            due.is("name of the face: " + method, isOfFace(method.getName()) ? 1 : 0, 0);
            due.is("too many parameters: " + method, Math.max(method.getParameterCount(), 7), 7);
        }
    }

    private static boolean isOfFace(String name) {
        for (String form : FACE) {
            if (form.contains(" " + name + "(")) {
                return true;
            }
        }
        return false;
    }

    private static void fields(Class<?> of) {
        int own = 0;
        for (Field field : of.getDeclaredFields()) {
            if (Modifier.isStatic(field.getModifiers())) {
                due.is("final " + field, Modifier.isFinal(field.getModifiers()) ? 1 : 0, 1);
            } else {
                own++;
            }
            if (of == StillHouse.class) {
                due.is("private " + field, Modifier.isPrivate(field.getModifiers()) ? 1 : 0, 1);
            }
        }
        due.is("too many fields of " + of, Math.max(own, 20), 20);
    }

    private static void source(String text) {
        String code = text.replaceAll("(?s)/\\*.*?\\*/", "").replaceAll("//[^\n]*", "")
            .replaceAll("\"[^\"\n]*\"", "\"\"").replaceAll("'[^'\n]*'", "' '");
        String[] ruledOut = {"\\bthrow\\b", "\\btry\\b", "\\bcatch\\b", "\\bsynchronized\\b", "\\bassert\\b", "\\bimport\\b",
            "\\bpackage\\b", "->", "::", "\\bprotected\\b", "\\bvar\\b", "\\bSystem\\b", "\\bThread\\b", "Exact\\b",
            "\"\"\\s*\\+", "\\+\\s*\"\"", "\\bdouble\\b", "\\bfloat\\b", "static\\s*\\{"};
        for (String pattern : ruledOut) {
            Matcher matcher = Pattern.compile(pattern).matcher(code);
            due.is("ruled out: " + pattern, matcher.find() ? 1 : 0, 0);
        }
        due.is("longest method", Math.max(longestMethod(code), 60), 60);
    }

    /** The most lines from a method's head (at 4 or 8 blanks) to its closing brace. */
    private static int longestMethod(String code) {
        String[] lines = code.split("\n");
        int longest = 0;
        for (int i = 0; i < lines.length; i++) {
            String indent = lines[i].replaceAll("\\S.*", "");
            if (!lines[i].matches(" {4}( {4})?[a-zA-Z].*\\).*\\{")) {
                continue;
            }
            int end = i;
            while (end < lines.length - 1 && !lines[end].equals(indent + "}")) {
                end++;
            }
            longest = Math.max(longest, end - i + 1);
        }
        return longest;
    }
}
