import java.io.IOException;
import java.lang.reflect.Constructor;
import java.lang.reflect.Field;
import java.lang.reflect.Method;
import java.lang.reflect.Modifier;
import java.nio.file.Files;
import java.nio.file.Path;
import java.util.ArrayList;
import java.util.Arrays;
import java.util.List;
import java.util.Set;
import java.util.TreeSet;
import java.util.regex.Matcher;
import java.util.regex.Pattern;
import java.util.stream.Collectors;

/** Those rules of LANGUAGE.md that can be seen by the words of the source, or from outside. */
final class LanguageRules {
    private static final String FACE = "status top bottom tray write read pour feed county seasons fault told wind kite crop"
            + " tenant stands owner shaders estate nobodys disputed crosses doomed lulls busiest greatest hour walk cut sell"
            + " blow rule lease reap ripe leaseOf plant planted purseIn tenantIn cutIn fly flyAt cover coverSet settle strip"
            + " suspects telling strips duel duelStep needed share shaded live lived mean mark undo";
    private static final String[][] FORBIDDEN = {
        {"1", "\\bpackage\\b"}, {"4", "\\bimport\\b"}, {"6", "\\b(throw|throws|try|catch|finally|synchronized|assert)\\b"},
        {"2", "->|::"}, {"4", "Exact\\("}, {"4", "\\b(Arrays|Collections|System\\.(?!arraycopy)\\w+|Integer\\.MAX_VALUE|Integer\\.MIN_VALUE)\\b"},
        {"4", "\\b(Scanner|Random|Thread|Map|Set|Object|Character|Long|Double|Float|Boolean)\\."},
        {"5", "\\bstatic (?!final|.*\\()"}, {"6", "\\b(equals|hashCode|toString|getClass)\\b"}, {"3", "\\[\\]\\[\\]\\["}};
    private static final int MOST_LINES = 60;
    private static final int MOST_CLASSES = 12;
    private static final int MOST_FIELDS = 21;
    private static final int MOST_PARAMETERS = 7;

    private LanguageRules() {
    }

    static List<String> broken(String path) throws IOException {
        List<String> broken = new ArrayList<>();
        // what is said in comments and texts binds nobody
        String source = Files.readString(Path.of(path)).replaceAll("(?s)/\\*.*?\\*/", "").replaceAll("//[^\n]*", "")
                .replaceAll("\"[^\"\n]*\"", "\"\"").replace("Scanner.", "scanner.");
        for (String[] rule : FORBIDDEN) {
            Matcher m = Pattern.compile(rule[1]).matcher(source);
            if (m.find()) {
                broken.add(rule[0] + ": " + m.group());
            }
        }
        face(broken);
        sizes(broken, source);
        return broken;
    }

    private static void face(List<String> broken) {
        Set<String> due = new TreeSet<>(Arrays.asList(FACE.split(" ")));
        Set<String> seen = new TreeSet<>();
        for (Method m : KiteLand.class.getDeclaredMethods()) {
            if (Modifier.isPublic(m.getModifiers())) {
                seen.add(m.getName());
            } else if (!Modifier.isPrivate(m.getModifiers()) || due.contains(m.getName())) {
                broken.add("1: method " + m);
            }
        }
        if (!seen.equals(due)) {
            broken.add("1: the face is " + seen);
        }
        for (Field f : KiteLand.class.getDeclaredFields()) {
            if (!Modifier.isPrivate(f.getModifiers()) && !f.getName().equals("NONE")) {
                broken.add("1: field " + f);
            }
        }
        for (Constructor<?> c : KiteLand.class.getDeclaredConstructors()) {
            if (c.getParameterCount() > 0) {
                broken.add("1: " + c);
            }
        }
        List<Class<?>> inside = Arrays.asList(KiteLand.class.getDeclaredClasses());
        for (Class<?> c : inside) {
            if (!Modifier.isStatic(c.getModifiers()) || Modifier.isPublic(c.getModifiers())) {
                broken.add("2: " + c);
            }
            for (Method m : c.getDeclaredMethods()) {
                if (due.contains(m.getName())) {
                    broken.add("1: a name of the face: " + m);
                }
            }
        }
    }

    private static void sizes(List<String> broken, String source) {
        List<Class<?>> all = new ArrayList<>(Arrays.asList(KiteLand.class.getDeclaredClasses()));
        all.add(KiteLand.class);
        if (all.size() > MOST_CLASSES) {
            broken.add("11: " + all.size() + " classes");
        }
        for (Class<?> c : all) {
            List<Field> fields = Arrays.stream(c.getDeclaredFields())
                    .filter(f -> !Modifier.isStatic(f.getModifiers())).collect(Collectors.toList());
            if (fields.size() > MOST_FIELDS) {
                broken.add("11: " + fields.size() + " fields in " + c);
            }
            for (Method m : c.getDeclaredMethods()) {
                if (m.getParameterCount() > MOST_PARAMETERS) {
                    broken.add("11: parameters of " + m);
                }
            }
        }
        Matcher m = Pattern.compile("(?m)^( {4}| {8})[^ \n}][^\n=;]*\\{\n(.*?)^\\1\\}", Pattern.DOTALL).matcher(source);
        while (m.find()) {
            long lines = m.group(2).lines().count();
            if (lines > MOST_LINES && !m.group().contains(" class ")) {
                broken.add("11: " + lines + " lines: " + m.group().lines().findFirst().orElse(""));
            }
        }
    }
}
