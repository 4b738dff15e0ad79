import java.io.IOException;
import java.lang.reflect.Array;
import java.lang.reflect.Constructor;
import java.lang.reflect.Field;
import java.lang.reflect.Method;
import java.lang.reflect.Modifier;
import java.nio.file.Files;
import java.nio.file.Path;
import java.util.ArrayList;
import java.util.Arrays;
import java.util.Collections;
import java.util.IdentityHashMap;
import java.util.List;
import java.util.Set;
import java.util.TreeSet;
import java.util.regex.Matcher;
import java.util.regex.Pattern;

/** The public face, the rules of the language that can be seen from outside, and the room. */
public final class FaceTest {
    private static final String[] FACE = {
        "int portage(int, int, int, int)", "int ofStage(int, int)", "int ofThing(int, int)",
        "int bears(int)", "int rain(int)", "int boards(int, boolean)", "int well(int)",
        "int trips(int, int, int, int, int)", "int at(int, int, int, int, int, int)",
        "long dry(int, int, int, int, int)", "int soonest()", "int trip(int, int)",
        "int fewest()", "int cost(int)", "int help(int)", "int reading(int, int, int)",
        "int back(int)", "int since(int, int, int, int)", "int kinds(int, int, int, int, int)",
        "int sheet(int, int, int)", "int lose(int)", "int put(int, int, int)",
        "long cell(int, int, int)", "int copy(int, int, int, int, int)", "int tell(int)",
        "int hail(int)", "int as(int, int)", "int trace()", "int fault()", "int many(int)",
        "int UNKNOWN", "int OUTSIDE", "int STATE", "int FULL", "int NONE", "long LOST", "new ()",
    };
    private static final Path SOURCE = Path.of("src/main/java/PortageTrips.java");
    /** What one object may hold, so that hundreds of them still fit into the room. */
    private static final long MOST_ELEMENTS = 8000, MOST_OBJECTS = 60;

    private static int wrong;

    private static void check(boolean holds, String what) {
        if (!holds) {
            wrong++;
            System.out.println("not so: " + what);
        }
    }

    private static String listOf(Class<?>[] types) {
        List<String> names = new ArrayList<>();
        for (Class<?> type : types) {
            names.add(type.getName());
        }
        return "(" + String.join(", ", names) + ")";
    }

    private static void checkFace() {
        Class<?> c = PortageTrips.class;
        check(Modifier.isPublic(c.getModifiers()) && Modifier.isFinal(c.getModifiers()), "public final");
        Set<String> face = new TreeSet<>();
        Set<String> names = new TreeSet<>();
        for (Method m : c.getDeclaredMethods()) {
            if (!Modifier.isPrivate(m.getModifiers())) {
                check(Modifier.isPublic(m.getModifiers()) && !Modifier.isStatic(m.getModifiers()),
                    m + " is of the face");
                face.add(m.getReturnType() + " " + m.getName() + listOf(m.getParameterTypes()));
                names.add(m.getName());
            }
        }
        for (Field f : c.getDeclaredFields()) {
            if (!Modifier.isPrivate(f.getModifiers())) {
                int all = Modifier.PUBLIC | Modifier.STATIC | Modifier.FINAL;
                check((f.getModifiers() & all) == all, f + " is a constant of the face");
                face.add(f.getType() + " " + f.getName());
            }
        }
        for (Constructor<?> made : c.getDeclaredConstructors()) {
            check(Modifier.isPublic(made.getModifiers()), made + " is public");
            face.add("new " + listOf(made.getParameterTypes()));
        }
        Set<String> due = new TreeSet<>(Arrays.asList(FACE));
        check(face.equals(due), "the face is " + due + " but was " + face);
        checkInside(c, names);
    }

    private static void checkInside(Class<?> c, Set<String> publicNames) {
        List<Class<?>> all = new ArrayList<>(Arrays.asList(c.getDeclaredClasses()));
        check(all.size() < 12, "at most twelve classes");
        for (Class<?> inside : all) {
            check(Modifier.isStatic(inside.getModifiers()), inside + " is static");
            check(!Modifier.isPublic(inside.getModifiers()), inside + " is not public");
        }
        all.add(c);
        for (Class<?> any : all) {
            int fields = 0;
            for (Field f : any.getDeclaredFields()) {
                fields += Modifier.isStatic(f.getModifiers()) ? 0 : 1;
                check(!Modifier.isStatic(f.getModifiers()) || Modifier.isFinal(f.getModifiers()),
                    f + " is final");
            }
            check(fields <= 20, any + " has at most twenty fields");
            for (Method m : any.getDeclaredMethods()) {
                check(m.getParameterCount() <= 7, m + " takes at most seven");
                check(any == c && Modifier.isPublic(m.getModifiers())
                    || !publicNames.contains(m.getName()), m + " bears a name of the face");
            }
        }
    }

    private static void checkSource() throws IOException {
        String code = Files.readString(SOURCE).replaceAll("(?s)/\\*.*?\\*/|//[^\n]*", "");
        check(code.chars().allMatch(ch -> ch == '\n' || ch >= 32 && ch < 127), "plain signs alone");
        String[] barred = {
            "\\b(throw|throws|try|catch|synchronized|assert|finally|package|double|float)\\b", "->", "::",
            "\\bString\\b", "\\w+Exact\\b", "\\b(System\\.(?!arraycopy)|Thread|Random)\\w*",
            "\\b(hashCode|equals|toString)\\b", "while \\(true\\)", "for \\(;;\\)", "\\bstatic \\{",
        };
        for (String words : barred) {
            Matcher m = Pattern.compile(words).matcher(code);
            check(!m.find(), "the source has none of " + words);
        }
        for (String line : code.split("\n")) {
            check(!line.startsWith("import ") || line.equals("import java.util.Arrays;"), line);
        }
        checkLengths(code.split("\n"));
    }

    private static void checkLengths(String[] lines) {
        int start = -1;
        for (int k = 0; k < lines.length; k++) {
            if (lines[k].matches("(    |        )[\\w\\[\\]<> ]+\\([^=;]*\\) \\{")) {
                start = k;
            }
            if (start >= 0 && lines[k].matches("(    |        )\\}")) {
                check(k - start <= 60, "at most sixty lines: " + lines[start].trim());
                start = -1;
            }
        }
    }

    /** {objects and arrays, fields and elements} that hang on an object. */
    private static long[] roomOf(Object root) throws IllegalAccessException {
        Set<Object> seen = Collections.newSetFromMap(new IdentityHashMap<>());
        List<Object> open = new ArrayList<>(List.of(root));
        long elements = 0;
        while (!open.isEmpty()) {
            Object one = open.remove(open.size() - 1);
            if (one == null || !seen.add(one)) {
                continue;
            }
            if (one.getClass().isArray()) {
                elements += Array.getLength(one);
                if (one instanceof Object[]) {
                    open.addAll(Arrays.asList((Object[]) one));
                }
                continue;
            }
            for (Field f : one.getClass().getDeclaredFields()) {
                if (!Modifier.isStatic(f.getModifiers())) {
                    elements++;
                    f.setAccessible(true);
                    if (!f.getType().isPrimitive()) {
                        open.add(f.get(one));
                    }
                }
            }
        }
        return new long[] {seen.size(), elements};
    }

    private static void checkRoom() throws IllegalAccessException {
        PortageTrips x = new PortageTrips();
        long[] first = roomOf(x);
        check(first[0] <= MOST_OBJECTS, "objects: " + first[0]);
        check(first[1] <= MOST_ELEMENTS, "elements: " + first[1]);
        String text = "g6;52;31;11,t3,t2,c4,t5";
        for (int round = 0; round < 5; round++) {
            x.sheet(0, 0, text.length());
            for (int i = 0; i < text.length(); i++) {
                x.put(0, i, text.charAt(i));
            }
            x.portage(0, 0, 0, text.length());
            x.reading(0, 0, 0);
            x.soonest();
            x.cost(1);
            x.help(3);
            x.fewest();
            x.since(0, 0, 0, 0);
            x.kinds(0, 0, 0, 0, 0);
        }
        long[] later = roomOf(x);
        check(Arrays.equals(first, later), "calls keep nothing that is new");
    }

    public static void main(String[] args) throws Exception {
        checkFace();
        checkSource();
        checkRoom();
        System.out.println(wrong == 0 ? "the face is as told" : wrong + " things are not as told");
        if (wrong != 0) {
            System.exit(1);
        }
    }
}
