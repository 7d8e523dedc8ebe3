import java.lang.reflect.Constructor;
import java.lang.reflect.Field;
import java.lang.reflect.Method;
import java.lang.reflect.Modifier;
import java.util.ArrayList;
import java.util.Arrays;
import java.util.List;

/** The face is the document's, and nothing else can be seen. */
public final class FaceTest {
    public static void main(String[] args) {
        Check.due("the class is public and final",
            Modifier.isPublic(FilmBlocks.class.getModifiers())
                && Modifier.isFinal(FilmBlocks.class.getModifiers()));
        Check.due("NONE", -1, FilmBlocks.NONE);
        Check.due("one constructor", 1, FilmBlocks.class.getDeclaredConstructors().length);
        for (Constructor<?> constructor : FilmBlocks.class.getDeclaredConstructors()) {
            Check.due("it is public", Modifier.isPublic(constructor.getModifiers()));
        }
        methods();
        for (Field field : FilmBlocks.class.getDeclaredFields()) {
            Check.due("field " + field.getName(),
                field.getName().equals("NONE") || Modifier.isPrivate(field.getModifiers()));
        }
        for (Class<?> inside : FilmBlocks.class.getDeclaredClasses()) {
            Check.due("class " + inside.getName(), Modifier.isStatic(inside.getModifiers()));
        }
        Check.end();
    }

    private static void methods() {
        List<String> due = new ArrayList<>(Arrays.asList(
            "int feed(int int int int) IllegalStateException",
            "void end(int) IllegalArgumentException",
            "int header()",
            "int frame() IllegalStateException",
            "int head(int) IllegalStateException IllegalArgumentException",
            "int frames()",
            "int sample(int int boolean) IllegalStateException IndexOutOfBoundsException",
            "int block(int int int) IllegalStateException IndexOutOfBoundsException"
                + " IllegalArgumentException",
            "int taken()",
            "int sum()"));
        for (Method method : FilmBlocks.class.getDeclaredMethods()) {
            if (Modifier.isPublic(method.getModifiers())) {
                Check.due(form(method), due.remove(form(method)));
            } else {
                Check.due(method.getName() + " is private",
                    Modifier.isPrivate(method.getModifiers()));
            }
        }
        Check.due("methods that are missing: " + due, due.isEmpty());
    }

    private static String form(Method method) {
        StringBuilder form = new StringBuilder();
        form.append(method.getReturnType().getSimpleName()).append(' ').append(method.getName());
        String between = "(";
        for (Class<?> type : method.getParameterTypes()) {
            form.append(between).append(type.getSimpleName());
            between = " ";
        }
        form.append(between.equals("(") ? "()" : ")");
        for (Class<?> type : method.getExceptionTypes()) {
            form.append(' ').append(type.getSimpleName());
        }
        return form.toString();
    }
}
