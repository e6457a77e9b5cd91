import java.io.IOException;
import java.lang.management.ManagementFactory;
import java.lang.reflect.Constructor;
import java.lang.reflect.Field;
import java.lang.reflect.Method;
import java.lang.reflect.Modifier;
import java.nio.charset.StandardCharsets;
import java.nio.file.Files;
import java.nio.file.Path;
import java.util.ArrayList;
import java.util.Arrays;
import java.util.Collections;
import java.util.HashSet;
import java.util.List;
import java.util.Set;

/** What can be looked at of LANGUAGE.md from outside: the face, sizes, and the room that calls take. */
public final class RulesTest {
    private static final String FACE = "hill(int,int,int)int thing(int,int,int,int,int)int put(int,int)int "
            + "work(int,boolean)int cost(int,int)int high(int)int sight(int,int)int clear(int,int,int)int "
            + "type(long,int)int clearText()int land()int sees(int,int)int judge(int,int)int most(int,int)int "
            + "lawful(int)int years(int)int mist(int,int)int hours(int)int fewest(int,int)int cheapest(int,int)int "
            + "tower(int)int row(int,int,int)int reach(int,int)int words(int,int,int)int byMists(int,int,int)int "
            + "letter(int)int unword()int toldIn(int,int)int report(int,int)int blame(int,int)int without(int)int "
            + "chance(int,int)int lies(int,int)int tell(int,int,int)int night(int,int)int part(int)long image(int)int "
            + "from(int)int status(int)int count(int)int digest()long";
    private static int wrong = 0;

    public static void main(String[] args) throws IOException {
        face();
        inside();
        String source = Files.readString(Path.of("src/main/java/TwinFires.java"), StandardCharsets.ISO_8859_1);
        keep(source.chars().allMatch(c -> c == '\n' || c >= 32 && c < 127), "rule 4: a sign beyond 127, or a tab");
        room();
        System.out.println(wrong == 0 ? "the rules are kept" : wrong + " rules are broken");
        if (wrong != 0) {
            System.exit(1);
        }
    }

    private static void keep(boolean kept, String rule) {
        if (!kept) {
            wrong++;
            System.out.println(rule);
        }
    }

    private static void face() {
        keep(Modifier.isPublic(TwinFires.class.getModifiers()) && Modifier.isFinal(TwinFires.class.getModifiers()),
                "rule 1: the class is public and final");
        List<String> methods = new ArrayList<>();
        Set<String> names = new HashSet<>();
        for (Method m : TwinFires.class.getDeclaredMethods()) {
            if (Modifier.isPublic(m.getModifiers())) {
                List<String> types = new ArrayList<>();
                for (Class<?> t : m.getParameterTypes()) {
                    types.add(t.getName());
                }
                methods.add(m.getName() + "(" + String.join(",", types) + ")" + m.getReturnType().getName());
                names.add(m.getName());
            }
        }
        List<String> wanted = new ArrayList<>(Arrays.asList(FACE.split(" ")));
        Collections.sort(methods);
        Collections.sort(wanted);
        keep(methods.equals(wanted), "rule 1: the public methods are " + methods);
        for (Class<?> c : classes()) {
            for (Method m : c.getDeclaredMethods()) {
                keep(Modifier.isPublic(m.getModifiers()) || !names.contains(m.getName()),
                        "rule 1: " + c.getName() + "." + m.getName() + " bears the name of a public one");
                keep(c != TwinFires.class || Modifier.isPublic(m.getModifiers()) || Modifier.isPrivate(m.getModifiers()),
                        "rule 1: " + m.getName() + " is seen from outside");
            }
        }
        Set<String> constants = new HashSet<>();
        for (Field f : TwinFires.class.getDeclaredFields()) {
            if (Modifier.isPublic(f.getModifiers())) {
                constants.add(f.getName());
            } else {
                keep(Modifier.isPrivate(f.getModifiers()), "rule 1: " + f.getName() + " is seen from outside");
            }
        }
        keep(constants.equals(Set.of("NONE", "BAD", "NO", "FULL")), "rule 1: the constants are " + constants);
        Constructor<?>[] made = TwinFires.class.getDeclaredConstructors();
        keep(made.length == 1 && made[0].getParameterCount() == 0, "rule 1: one constructor");
    }

    private static List<Class<?>> classes() {
        List<Class<?>> all = new ArrayList<>();
        all.add(TwinFires.class);
        all.addAll(Arrays.asList(TwinFires.class.getDeclaredClasses()));
        return all;
    }

    private static void inside() {
        keep(classes().size() <= 12, "rule 11: " + classes().size() + " classes");
        for (Class<?> c : classes()) {
            int fields = 0;
            for (Field f : c.getDeclaredFields()) {
                boolean isStatic = Modifier.isStatic(f.getModifiers());
                fields += isStatic ? 0 : 1;
                keep(!isStatic || Modifier.isFinal(f.getModifiers()), "rule 5: " + c.getName() + "." + f.getName());
            }
            keep(fields <= 20, "rule 11: " + fields + " fields in " + c.getName());
            keep(c == TwinFires.class || Modifier.isStatic(c.getModifiers()) && !Modifier.isPublic(c.getModifiers()),
                    "rule 2: " + c.getName());
            for (Method m : c.getDeclaredMethods()) {
                keep(m.getParameterCount() <= 7, "rule 11: parameters of " + m.getName());
            }
        }
    }

    private static void room() {
        com.sun.management.ThreadMXBean bean = (com.sun.management.ThreadMXBean) ManagementFactory.getThreadMXBean();
        long id = Thread.currentThread().getId();
        dear(new TwinFires(), 2);
        long start = bean.getThreadAllocatedBytes(id);
        TwinFires x = new TwinFires();
        long made = bean.getThreadAllocatedBytes(id) - start;
        keep(made < 64 * 1024, "room: a new object takes " + made + " bytes");
        start = bean.getThreadAllocatedBytes(id);
        dear(x, 60);
        long used = bean.getThreadAllocatedBytes(id) - start;
        keep(used < 64 * 1024, "room: its calls take " + used + " bytes");
    }

    private static void dear(TwinFires x, int rounds) {
        for (int i = 0; i < 10; i++) {
            x.hill(i < 5 ? i : 14 + i - 5, i % 2 == 0 ? i : 19 - i, 40);
            x.thing(1 + i % 5, i, 10, 30, i % 5 == 4 ? 0 : 1);
        }
        x.letter(2);
        x.letter(9);
        for (int i = 0; i < rounds; i++) {
            x.toldIn(0, 0);
            x.byMists(0, 3, 2);
            x.row(0, 3, 1);
            x.words(0, 0, 6);
            x.fewest(1023, 1);
            x.cheapest(1, 0);
            x.tower(0);
            x.image(0);
            x.from(0);
        }
    }
}
